noncomputable def m_X8_in (v0 : Int32) (v1 : Int32) (v2 : Int32) : Option Int32 := if v0 < v1 then (some 0) else (if v2 < v0 then (some 0) else (some 1))
set_option maxHeartbeats 4000000 in
set_option maxRecDepth 100000 in
theorem c_X8_in (l : Launch) (D : va_G) (cI cZ : ClassId) (v0 : Int32) (v1 : Int32) (v2 : Int32) {res : Int32} (h : m_X8_in v0 v1 v2 = some res) : CT l yX8_in wsX8_in ({ frames := 0, cells := 0, slots := 0, locals := 0 } : Room) D cI cZ [.int v0, .int v1, .int v2] [] (QI D [] (fun (r : Int32) (_ : Unit) => r = res) (fun (u : Unit) => [])) 0 0 := by
  have h : (if v0 < v1 then (some 0) else (if v2 < v0 then (some 0) else (some 1)) : Option Int32) = some res := h
  refine ct_entry (cc := cX8_in) (nl := 3) (ret := (some .boolean)) (own := RX8) (lv0 := [(0, .int v0), (1, .int v1), (2, .int v2)]) (by decide) rfl rfl (Nat.le_of_ble_eq_true rfl) rfl ?_
  intro p e s m args below meth c A Q hA hQ hr hnm B
  refine ww_iload_n B dX8_in_0 0 rfl ?_
  refine ww_iload_n B dX8_in_1 1 rfl ?_
  refine ww_icmp_lt B 14 dX8_in_2 (by decide) (fun c_2 => ?_) (fun c_2 => ?_)
  · replace h := og_t c_2 h
    refine ww_iconst B dX8_in_14 (v := 0) (by decide) ?_
    exact ww_zret B hA hQ hr (Or.inl rfl) dX8_in_15 () [] rfl (by decide) (og_s h).symm
  · replace h := og_f c_2 h
    refine ww_iload_n B dX8_in_5 0 rfl ?_
    refine ww_iload_n B dX8_in_6 2 rfl ?_
    refine ww_icmp_gt B 14 dX8_in_7 (by decide) (fun c_7 => ?_) (fun c_7 => ?_)
    · replace h := og_t c_7 h
      refine ww_iconst B dX8_in_14 (v := 0) (by decide) ?_
      exact ww_zret B hA hQ hr (Or.inl rfl) dX8_in_15 () [] rfl (by decide) (og_s h).symm
    · replace h := og_f c_7 h
      refine ww_iconst B dX8_in_10 (v := 1) (by decide) ?_
      refine ww_goto B 15 dX8_in_11 (by decide) ?_
      exact ww_zret B hA hQ hr (Or.inr rfl) dX8_in_15 () [] rfl (by decide) (og_s h).symm
noncomputable def m_X8_areSets (v0 : Int32) (v1 : Int32) : Option Int32 := ogb (m_X8_in v0 0 63) (fun q_4 => if q_4 = 0 then (some 0) else (ogb (m_X8_in v1 0 31) (fun q_14 => if q_14 = 0 then (some 0) else (some 1))))
set_option maxHeartbeats 4000000 in
set_option maxRecDepth 100000 in
theorem c_X8_areSets (l : Launch) (D : va_G) (cI cZ : ClassId) (v0 : Int32) (v1 : Int32) {res : Int32} (h : m_X8_areSets v0 v1 = some res) : CT l yX8_areSets wsX8_areSets ({ frames := 1, cells := 0, slots := 0, locals := 22 } : Room) D cI cZ [.int v0, .int v1] [] (QI D [] (fun (r : Int32) (_ : Unit) => r = res) (fun (u : Unit) => [])) 0 0 := by
  have h : (ogb (m_X8_in v0 0 63) (fun q_4 => if q_4 = 0 then (some 0) else (ogb (m_X8_in v1 0 31) (fun q_14 => if q_14 = 0 then (some 0) else (some 1)))) : Option Int32) = some res := h
  refine ct_entry (cc := cX8_areSets) (nl := 2) (ret := (some .boolean)) (own := RX8) (lv0 := [(0, .int v0), (1, .int v1)]) (by decide) rfl rfl (Nat.le_of_ble_eq_true rfl) rfl ?_
  intro p e s m args below meth c A Q hA hQ hr hnm B
  refine ww_iload_n B dX8_areSets_0 0 rfl ?_
  refine ww_iconst B dX8_areSets_1 (v := 0) (by decide) ?_
  refine ww_bipush B dX8_areSets_2 (v := 63) (by decide) ?_
  obtain ⟨q_4, hq_4, h⟩ := og_b h
  refine ww_ci0 B (k' := 0) (n' := 0) rfl rfl [] [] (wr := []) (st := []) rfl rfl (by decide) (rr_S B (c_X8_in l D cI cZ v0 0 63 hq_4) gX8_areSets_X8_in rfl rfl rfl (N := 3) rfl (by decide +kernel) ⟨Nat.le_of_ble_eq_true rfl, Nat.le_of_ble_eq_true rfl⟩ rfl dX8_areSets_4 (Nat.le_of_ble_eq_true rfl) ⟨Nat.le_of_ble_eq_true rfl, Nat.le_of_ble_eq_true rfl⟩) (ws' := []) rfl ?_
  refine ww_if_eq B 24 dX8_areSets_7 (by decide) (fun c_7 => ?_) (fun c_7 => ?_)
  · replace h := og_t c_7 h
    refine ww_iconst B dX8_areSets_24 (v := 0) (by decide) ?_
    exact ww_zret B hA hQ hr (Or.inl rfl) dX8_areSets_25 () [] rfl (by decide) (og_s h).symm
  · replace h := og_f c_7 h
    refine ww_iload_n B dX8_areSets_10 1 rfl ?_
    refine ww_iconst B dX8_areSets_11 (v := 0) (by decide) ?_
    refine ww_bipush B dX8_areSets_12 (v := 31) (by decide) ?_
    obtain ⟨q_14, hq_14, h⟩ := og_b h
    refine ww_ci0 B (k' := 0) (n' := 0) rfl rfl [] [] (wr := []) (st := []) rfl rfl (by decide) (rr_S B (c_X8_in l D cI cZ v1 0 31 hq_14) gX8_areSets_X8_in rfl rfl rfl (N := 3) rfl (by decide +kernel) ⟨Nat.le_of_ble_eq_true rfl, Nat.le_of_ble_eq_true rfl⟩ rfl dX8_areSets_14 (Nat.le_of_ble_eq_true rfl) ⟨Nat.le_of_ble_eq_true rfl, Nat.le_of_ble_eq_true rfl⟩) (ws' := []) rfl ?_
    refine ww_if_eq B 24 dX8_areSets_17 (by decide) (fun c_17 => ?_) (fun c_17 => ?_)
    · replace h := og_t c_17 h
      refine ww_iconst B dX8_areSets_24 (v := 0) (by decide) ?_
      exact ww_zret B hA hQ hr (Or.inl rfl) dX8_areSets_25 () [] rfl (by decide) (og_s h).symm
    · replace h := og_f c_17 h
      refine ww_iconst B dX8_areSets_20 (v := 1) (by decide) ?_
      refine ww_goto B 25 dX8_areSets_21 (by decide) ?_
      exact ww_zret B hA hQ hr (Or.inr rfl) dX8_areSets_25 () [] rfl (by decide) (og_s h).symm
noncomputable def m_X8_isName (v0 : Int32) : Option Int32 := ogb (m_X8_in v0 0 4) (fun q_3 => ogy (q_3 = 0 ∨ q_3 = 1) (some q_3))
set_option maxHeartbeats 4000000 in
set_option maxRecDepth 100000 in
theorem c_X8_isName (l : Launch) (D : va_G) (cI cZ : ClassId) (v0 : Int32) {res : Int32} (h : m_X8_isName v0 = some res) : CT l yX8_isName wsX8_isName ({ frames := 1, cells := 0, slots := 0, locals := 22 } : Room) D cI cZ [.int v0] [] (QI D [] (fun (r : Int32) (_ : Unit) => r = res) (fun (u : Unit) => [])) 0 0 := by
  have h : (ogb (m_X8_in v0 0 4) (fun q_3 => ogy (q_3 = 0 ∨ q_3 = 1) (some q_3)) : Option Int32) = some res := h
  refine ct_entry (cc := cX8_isName) (nl := 1) (ret := (some .boolean)) (own := RX8) (lv0 := [(0, .int v0)]) (by decide) rfl rfl (Nat.le_of_ble_eq_true rfl) rfl ?_
  intro p e s m args below meth c A Q hA hQ hr hnm B
  refine ww_iload_n B dX8_isName_0 0 rfl ?_
  refine ww_iconst B dX8_isName_1 (v := 0) (by decide) ?_
  refine ww_iconst B dX8_isName_2 (v := 4) (by decide) ?_
  obtain ⟨q_3, hq_3, h⟩ := og_b h
  refine ww_ci0 B (k' := 0) (n' := 0) rfl rfl [] [] (wr := []) (st := []) rfl rfl (by decide) (rr_S B (c_X8_in l D cI cZ v0 0 4 hq_3) gX8_isName_X8_in rfl rfl rfl (N := 3) rfl (by decide +kernel) ⟨Nat.le_of_ble_eq_true rfl, Nat.le_of_ble_eq_true rfl⟩ rfl dX8_isName_3 (Nat.le_of_ble_eq_true rfl) ⟨Nat.le_of_ble_eq_true rfl, Nat.le_of_ble_eq_true rfl⟩) (ws' := []) rfl ?_
  obtain ⟨z_6, h⟩ := og_y h
  exact ww_zret B hA hQ hr z_6 dX8_isName_6 () [] rfl (by decide) (og_s h).symm
noncomputable def m_X8_power_5b (k5 : Int64 → Int32 → Int64 → Int32 → Option Int64) (v0 : Int64) (v2 : Int32) (v3 : Int64) (v5 : Int32) : Option Int64 := if v2 ≤ v5 then (some v3) else (ogl (v3 * v0) (fun (v3_14 : Int64) => ogl (v5 + 1) (fun (v5_15 : Int32) => (k5 v0 v2 v3_14 v5_15))))
noncomputable def m_X8_power_5 (fuel : Nat) : Int64 → Int32 → Int64 → Int32 → Option Int64 := Nat.rec (fun _ _ _ _ => none) (fun _ k5 => m_X8_power_5b k5) fuel
noncomputable def m_X8_power (v0 : Int64) (v2 : Int32) : Option Int64 := (m_X8_power_5 1000000 v0 v2 1 0)
set_option maxHeartbeats 4000000 in
set_option maxRecDepth 100000 in
theorem c_X8_power (l : Launch) (D : va_G) (cI cZ : ClassId) (v0 : Int64) (v2 : Int32) {res : Int64} (h : m_X8_power v0 v2 = some res) : CT l yX8_power wsX8_power ({ frames := 0, cells := 0, slots := 0, locals := 0 } : Room) D cI cZ [.long v0, .int v2] [] (QL D [] (fun (r : Int64) (_ : Unit) => r = res) (fun (u : Unit) => [])) 0 0 := by
  have h : ((m_X8_power_5 1000000 v0 v2 1 0) : Option Int64) = some res := h
  refine ct_entry (cc := cX8_power) (nl := 6) (ret := (some .long)) (own := RX8) (lv0 := [(0, .long v0), (2, .int v2)]) (by decide) rfl rfl (Nat.le_of_ble_eq_true rfl) rfl ?_
  intro p e s m args below meth c A Q hA hQ hr hnm B
  have cut_5 : ∀ (fuel : Nat) (v0 : Int64) (v2 : Int32) (v3 : Int64) (v5 : Int32), m_X8_power_5 fuel v0 v2 v3 v5 = some res → WW p l e (headSpec wsX8_power ({ frames := 0, cells := 0, slots := 0, locals := 0 } : Room)).room s m args below meth c D A 6 0 0 Q [] [(0, .long v0), (2, .int v2), (3, .long v3), (5, .int v5)] [] 5 := by
    intro fuel_5
    induction fuel_5 with
    | zero => intro v0 v2 v3 v5 h; exact og_0 h
    | succ fuel_5 ih_5 =>
      intro v0 v2 v3 v5 h
      replace h : (if v2 ≤ v5 then (some v3) else (ogl (v3 * v0) (fun (v3_14 : Int64) => ogl (v5 + 1) (fun (v5_15 : Int32) => ((m_X8_power_5 fuel_5) v0 v2 v3_14 v5_15)))) : Option Int64) = some res := h
      refine ww_iload B dX8_power_5 3 rfl ?_
      refine ww_iload_n B dX8_power_7 1 rfl ?_
      refine ww_icmp_ge B 21 dX8_power_8 (by decide) (fun c_8 => ?_) (fun c_8 => ?_)
      · replace h := og_t c_8 h
        refine ww_lload_n B dX8_power_21 2 rfl ?_
        exact ww_lret B hA hQ hr dX8_power_22 () [] rfl (by decide) (og_s h).symm
      · replace h := og_f c_8 h
        refine ww_lload_n B dX8_power_11 2 rfl ?_
        refine ww_lload_n B dX8_power_12 0 rfl ?_
        refine ww_lmul B dX8_power_13 ?_
        refine ww_topl (fun v3_14 ev3_14 => ?_)
        replace h := og_l ev3_14 h
        refine ww_lstore_n B dX8_power_14 (lv' := [(3, .long v3_14), (0, .long v0), (2, .int v2), (5, .int v5)]) (by decide) rfl ?_
        obtain ⟨v5_15, ev5_15⟩ : ∃ y : Int32, y = (v5 + 1) := ⟨_, rfl⟩
        refine ww_iinc B dX8_power_15 3 rfl (v := v5_15) (by rw [ev5_15]; rfl) (by decide) (lv' := [(5, .int v5_15), (3, .long v3_14), (0, .long v0), (2, .int v2)]) rfl ?_
        replace h := og_l ev5_15 h
        refine ww_goto B 5 dX8_power_18 (by decide) ?_
        refine ww_lsel (lv' := [(0, .long v0), (2, .int v2), (3, .long v3_14), (5, .int v5_15)]) [2, 3, 1, 0] rfl ?_
        exact ih_5 _ _ _ _ h
  refine ww_lconst B dX8_power_0 (v := 1) (by decide) ?_
  refine ww_lstore_n B dX8_power_1 (lv' := [(3, .long 1), (0, .long v0), (2, .int v2)]) (by decide) rfl ?_
  refine ww_iconst B dX8_power_2 (v := 0) (by decide) ?_
  refine ww_istore B dX8_power_3 (lv' := [(5, .int 0), (3, .long 1), (0, .long v0), (2, .int v2)]) (by decide) rfl ?_
  refine ww_lsel (lv' := [(0, .long v0), (2, .int v2), (3, .long 1), (5, .int 0)]) [2, 3, 1, 0] rfl ?_
  exact cut_5 _ _ _ _ _ h
noncomputable def m_X8_asks (f_lucky : (Nat → Int32)) (v1 : Int32) (v2 : Int32) (v3 : Int32) : Option Int32 := ogb (m_X8_isName v1) (fun q_1 => if q_1 = 0 then (some (-1)) else (ogb (m_X8_in v2 1 7) (fun q_13 => if q_13 = 0 then (some (-2)) else (ogb (m_X8_in v3 0 999) (fun q_24 => if q_24 = 0 then (some (-2)) else (ogb (m_X8_power 100 v2) (fun q_37 => ogi v1 5 (ogb (m_X8_power (90 + (Int32.toInt64 (f_lucky (Int32.toNatClampNeg v1)))) v2) (fun q_58 => ogl ((Int32.toInt64 v3) * (q_37 - q_58)) (fun (v6_63 : Int64) => ogn (q_37 = 0) (some (Int64.toInt32 (((v6_63 + q_37) - 1) / q_37)))))))))))))
set_option maxHeartbeats 4000000 in
set_option maxRecDepth 100000 in
theorem c_X8_asks (l : Launch) (D : va_G) (cI cZ : ClassId) (a_t a_lucky b_may b_voyage b_worths b_ranks b_pad b_bears b_due b_borneBy b_gone b_sunk b_times b_whoBore b_gives b_best b_holds b_refused b_sums b_image b_isKept : Nat) (f_lucky : (Nat → Int32)) (x_t_signs : Int32) (x_t_day : Int32) (x_t_reason : Int32) (x_t_asked : Int32) (v1 : Int32) (v2 : Int32) (v3 : Int32) {res : Int32} (h : m_X8_asks f_lucky v1 v2 v3 = some res) : CT l yX8_asks wsX8_asks ({ frames := 2, cells := 0, slots := 0, locals := 42 } : Room) D cI cZ [.ref a_t, .int v1, .int v2, .int v3] [(a_t, .inr (8, [.ref b_may, .ref b_voyage, .ref a_lucky, .ref b_worths, .ref b_ranks, .int x_t_signs, .ref b_pad, .int x_t_day, .int x_t_reason, .ref b_bears, .ref b_due, .ref b_borneBy, .ref b_gone, .ref b_sunk, .ref b_times, .int x_t_asked, .ref b_whoBore, .ref b_gives, .ref b_best, .ref b_holds, .ref b_refused, .ref b_sums, .ref b_image, .ref b_isKept])), (a_lucky, .inl (cI, 5, .inl f_lucky))] (QI D [(a_t, .inr (8, [.ref b_may, .ref b_voyage, .ref a_lucky, .ref b_worths, .ref b_ranks, .int x_t_signs, .ref b_pad, .int x_t_day, .int x_t_reason, .ref b_bears, .ref b_due, .ref b_borneBy, .ref b_gone, .ref b_sunk, .ref b_times, .int x_t_asked, .ref b_whoBore, .ref b_gives, .ref b_best, .ref b_holds, .ref b_refused, .ref b_sums, .ref b_image, .ref b_isKept])), (a_lucky, .inl (cI, 5, .inl f_lucky))] (fun (r : Int32) (_ : Unit) => r = res) (fun (u : Unit) => [(a_t, .inr (8, [.ref b_may, .ref b_voyage, .ref a_lucky, .ref b_worths, .ref b_ranks, .int x_t_signs, .ref b_pad, .int x_t_day, .int x_t_reason, .ref b_bears, .ref b_due, .ref b_borneBy, .ref b_gone, .ref b_sunk, .ref b_times, .int x_t_asked, .ref b_whoBore, .ref b_gives, .ref b_best, .ref b_holds, .ref b_refused, .ref b_sums, .ref b_image, .ref b_isKept])), (a_lucky, .inl (cI, 5, .inl f_lucky))])) 0 0 := by
  have h : (ogb (m_X8_isName v1) (fun q_1 => if q_1 = 0 then (some (-1)) else (ogb (m_X8_in v2 1 7) (fun q_13 => if q_13 = 0 then (some (-2)) else (ogb (m_X8_in v3 0 999) (fun q_24 => if q_24 = 0 then (some (-2)) else (ogb (m_X8_power 100 v2) (fun q_37 => ogi v1 5 (ogb (m_X8_power (90 + (Int32.toInt64 (f_lucky (Int32.toNatClampNeg v1)))) v2) (fun q_58 => ogl ((Int32.toInt64 v3) * (q_37 - q_58)) (fun (v6_63 : Int64) => ogn (q_37 = 0) (some (Int64.toInt32 (((v6_63 + q_37) - 1) / q_37))))))))))))) : Option Int32) = some res := h
  refine ct_entry (cc := cX8_asks) (nl := 8) (ret := (some .int)) (own := RX8) (lv0 := [(0, .ref a_t), (1, .int v1), (2, .int v2), (3, .int v3)]) (by decide) rfl rfl (Nat.le_of_ble_eq_true rfl) rfl ?_
  intro p e s m args below meth c A Q hA hQ hr hnm B
  have iX8 : ∀ w ∈ wsX80, w ∈ wsX8_asks := by decide +kernel
  refine ww_iload_n B dX8_asks_0 1 rfl ?_
  obtain ⟨q_1, hq_1, h⟩ := og_b h
  refine ww_ci0 B (k' := 0) (n' := 0) rfl rfl [] [0, 1] (wr := [(a_t, .inr (8, [.ref b_may, .ref b_voyage, .ref a_lucky, .ref b_worths, .ref b_ranks, .int x_t_signs, .ref b_pad, .int x_t_day, .int x_t_reason, .ref b_bears, .ref b_due, .ref b_borneBy, .ref b_gone, .ref b_sunk, .ref b_times, .int x_t_asked, .ref b_whoBore, .ref b_gives, .ref b_best, .ref b_holds, .ref b_refused, .ref b_sums, .ref b_image, .ref b_isKept])), (a_lucky, .inl (cI, 5, .inl f_lucky))]) (st := []) rfl rfl (by decide) (rr_S B (c_X8_isName l D cI cZ v1 hq_1) gX8_asks_X8_isName rfl rfl rfl (N := 1) rfl (by decide +kernel) ⟨Nat.le_of_ble_eq_true rfl, Nat.le_of_ble_eq_true rfl⟩ rfl dX8_asks_1 (Nat.le_of_ble_eq_true rfl) ⟨Nat.le_of_ble_eq_true rfl, Nat.le_of_ble_eq_true rfl⟩) (ws' := [(a_t, .inr (8, [.ref b_may, .ref b_voyage, .ref a_lucky, .ref b_worths, .ref b_ranks, .int x_t_signs, .ref b_pad, .int x_t_day, .int x_t_reason, .ref b_bears, .ref b_due, .ref b_borneBy, .ref b_gone, .ref b_sunk, .ref b_times, .int x_t_asked, .ref b_whoBore, .ref b_gives, .ref b_best, .ref b_holds, .ref b_refused, .ref b_sums, .ref b_image, .ref b_isKept])), (a_lucky, .inl (cI, 5, .inl f_lucky))]) rfl ?_
  refine ww_if_ne B 9 dX8_asks_4 (by decide) (fun c_4 => ?_) (fun c_4 => ?_)
  · replace h := og_f c_4 h
    refine ww_iload_n B dX8_asks_9 2 rfl ?_
    refine ww_iconst B dX8_asks_10 (v := 1) (by decide) ?_
    refine ww_bipush B dX8_asks_11 (v := 7) (by decide) ?_
    obtain ⟨q_13, hq_13, h⟩ := og_b h
    refine ww_ci0 B (k' := 0) (n' := 0) rfl rfl [] [0, 1] (wr := [(a_t, .inr (8, [.ref b_may, .ref b_voyage, .ref a_lucky, .ref b_worths, .ref b_ranks, .int x_t_signs, .ref b_pad, .int x_t_day, .int x_t_reason, .ref b_bears, .ref b_due, .ref b_borneBy, .ref b_gone, .ref b_sunk, .ref b_times, .int x_t_asked, .ref b_whoBore, .ref b_gives, .ref b_best, .ref b_holds, .ref b_refused, .ref b_sums, .ref b_image, .ref b_isKept])), (a_lucky, .inl (cI, 5, .inl f_lucky))]) (st := []) rfl rfl (by decide) (rr_S B (c_X8_in l D cI cZ v2 1 7 hq_13) gX8_asks_X8_in rfl rfl rfl (N := 3) rfl (by decide +kernel) ⟨Nat.le_of_ble_eq_true rfl, Nat.le_of_ble_eq_true rfl⟩ rfl dX8_asks_13 (Nat.le_of_ble_eq_true rfl) ⟨Nat.le_of_ble_eq_true rfl, Nat.le_of_ble_eq_true rfl⟩) (ws' := [(a_t, .inr (8, [.ref b_may, .ref b_voyage, .ref a_lucky, .ref b_worths, .ref b_ranks, .int x_t_signs, .ref b_pad, .int x_t_day, .int x_t_reason, .ref b_bears, .ref b_due, .ref b_borneBy, .ref b_gone, .ref b_sunk, .ref b_times, .int x_t_asked, .ref b_whoBore, .ref b_gives, .ref b_best, .ref b_holds, .ref b_refused, .ref b_sums, .ref b_image, .ref b_isKept])), (a_lucky, .inl (cI, 5, .inl f_lucky))]) rfl ?_
    refine ww_if_eq B 30 dX8_asks_16 (by decide) (fun c_16 => ?_) (fun c_16 => ?_)
    · replace h := og_t c_16 h
      refine ww_bipush B dX8_asks_30 (v := (-2)) (by decide) ?_
      exact ww_iret B hA hQ hr dX8_asks_32 () [0, 1] rfl (by decide) (og_s h).symm
    · replace h := og_f c_16 h
      refine ww_iload_n B dX8_asks_19 3 rfl ?_
      refine ww_iconst B dX8_asks_20 (v := 0) (by decide) ?_
      refine ww_sipush B dX8_asks_21 (v := 999) (by decide) ?_
      obtain ⟨q_24, hq_24, h⟩ := og_b h
      refine ww_ci0 B (k' := 0) (n' := 0) rfl rfl [] [0, 1] (wr := [(a_t, .inr (8, [.ref b_may, .ref b_voyage, .ref a_lucky, .ref b_worths, .ref b_ranks, .int x_t_signs, .ref b_pad, .int x_t_day, .int x_t_reason, .ref b_bears, .ref b_due, .ref b_borneBy, .ref b_gone, .ref b_sunk, .ref b_times, .int x_t_asked, .ref b_whoBore, .ref b_gives, .ref b_best, .ref b_holds, .ref b_refused, .ref b_sums, .ref b_image, .ref b_isKept])), (a_lucky, .inl (cI, 5, .inl f_lucky))]) (st := []) rfl rfl (by decide) (rr_S B (c_X8_in l D cI cZ v3 0 999 hq_24) gX8_asks_X8_in rfl rfl rfl (N := 3) rfl (by decide +kernel) ⟨Nat.le_of_ble_eq_true rfl, Nat.le_of_ble_eq_true rfl⟩ rfl dX8_asks_24 (Nat.le_of_ble_eq_true rfl) ⟨Nat.le_of_ble_eq_true rfl, Nat.le_of_ble_eq_true rfl⟩) (ws' := [(a_t, .inr (8, [.ref b_may, .ref b_voyage, .ref a_lucky, .ref b_worths, .ref b_ranks, .int x_t_signs, .ref b_pad, .int x_t_day, .int x_t_reason, .ref b_bears, .ref b_due, .ref b_borneBy, .ref b_gone, .ref b_sunk, .ref b_times, .int x_t_asked, .ref b_whoBore, .ref b_gives, .ref b_best, .ref b_holds, .ref b_refused, .ref b_sums, .ref b_image, .ref b_isKept])), (a_lucky, .inl (cI, 5, .inl f_lucky))]) rfl ?_
      refine ww_if_ne B 33 dX8_asks_27 (by decide) (fun c_27 => ?_) (fun c_27 => ?_)
      · replace h := og_f c_27 h
        refine ww_ldc2 B (v := 100) (by decide +kernel) dX8_asks_33 ?_
        refine ww_iload_n B dX8_asks_36 2 rfl ?_
        obtain ⟨q_37, hq_37, h⟩ := og_b h
        refine ww_cl0 B (k' := 0) (n' := 0) rfl rfl [] [0, 1] (wr := [(a_t, .inr (8, [.ref b_may, .ref b_voyage, .ref a_lucky, .ref b_worths, .ref b_ranks, .int x_t_signs, .ref b_pad, .int x_t_day, .int x_t_reason, .ref b_bears, .ref b_due, .ref b_borneBy, .ref b_gone, .ref b_sunk, .ref b_times, .int x_t_asked, .ref b_whoBore, .ref b_gives, .ref b_best, .ref b_holds, .ref b_refused, .ref b_sums, .ref b_image, .ref b_isKept])), (a_lucky, .inl (cI, 5, .inl f_lucky))]) (st := []) rfl rfl (by decide) (rr_S B (c_X8_power l D cI cZ 100 v2 hq_37) gX8_asks_X8_power rfl rfl rfl (N := 2) rfl (by decide +kernel) ⟨Nat.le_of_ble_eq_true rfl, Nat.le_of_ble_eq_true rfl⟩ rfl dX8_asks_37 (Nat.le_of_ble_eq_true rfl) ⟨Nat.le_of_ble_eq_true rfl, Nat.le_of_ble_eq_true rfl⟩) (ws' := [(a_t, .inr (8, [.ref b_may, .ref b_voyage, .ref a_lucky, .ref b_worths, .ref b_ranks, .int x_t_signs, .ref b_pad, .int x_t_day, .int x_t_reason, .ref b_bears, .ref b_due, .ref b_borneBy, .ref b_gone, .ref b_sunk, .ref b_times, .int x_t_asked, .ref b_whoBore, .ref b_gives, .ref b_best, .ref b_holds, .ref b_refused, .ref b_sums, .ref b_image, .ref b_isKept])), (a_lucky, .inl (cI, 5, .inl f_lucky))]) rfl ?_
        refine ww_lstore B dX8_asks_40 (lv' := [(4, .long q_37), (0, .ref a_t), (1, .int v1), (2, .int v2), (3, .int v3)]) (by decide) rfl ?_
        refine ww_iload_n B dX8_asks_42 4 rfl ?_
        refine ww_i2l B dX8_asks_43 rfl ?_
        refine ww_lload B dX8_asks_44 0 rfl ?_
        refine ww_ldc2 B (v := 90) (by decide +kernel) dX8_asks_46 ?_
        refine ww_aload_n B dX8_asks_49 1 rfl ?_
        refine ww_get (ci := 8) (T := TX8) (C := RX8) (N := 24) B iX8 0 rfl rfl 2 (by decide) (by decide +kernel) rfl rfl dX8_asks_50 ?_
        refine ww_iload_n B dX8_asks_53 2 rfl ?_
        obtain ⟨i_54, h⟩ := og_i h
        refine ww_iald B 1 rfl i_54 dX8_asks_54 ?_
        refine ww_i2l B dX8_asks_55 rfl ?_
        refine ww_ladd B dX8_asks_56 ?_
        refine ww_iload_n B dX8_asks_57 3 rfl ?_
        obtain ⟨q_58, hq_58, h⟩ := og_b h
        refine ww_cl0 B (k' := 0) (n' := 0) rfl rfl [] [0, 1] (wr := [(a_t, .inr (8, [.ref b_may, .ref b_voyage, .ref a_lucky, .ref b_worths, .ref b_ranks, .int x_t_signs, .ref b_pad, .int x_t_day, .int x_t_reason, .ref b_bears, .ref b_due, .ref b_borneBy, .ref b_gone, .ref b_sunk, .ref b_times, .int x_t_asked, .ref b_whoBore, .ref b_gives, .ref b_best, .ref b_holds, .ref b_refused, .ref b_sums, .ref b_image, .ref b_isKept])), (a_lucky, .inl (cI, 5, .inl f_lucky))]) (st := [.long q_37, .long (Int32.toInt64 v3)]) rfl rfl (by decide) (rr_S B (c_X8_power l D cI cZ (90 + (Int32.toInt64 (f_lucky (Int32.toNatClampNeg v1)))) v2 hq_58) gX8_asks_X8_power rfl rfl rfl (N := 2) rfl (by decide +kernel) ⟨Nat.le_of_ble_eq_true rfl, Nat.le_of_ble_eq_true rfl⟩ rfl dX8_asks_58 (Nat.le_of_ble_eq_true rfl) ⟨Nat.le_of_ble_eq_true rfl, Nat.le_of_ble_eq_true rfl⟩) (ws' := [(a_t, .inr (8, [.ref b_may, .ref b_voyage, .ref a_lucky, .ref b_worths, .ref b_ranks, .int x_t_signs, .ref b_pad, .int x_t_day, .int x_t_reason, .ref b_bears, .ref b_due, .ref b_borneBy, .ref b_gone, .ref b_sunk, .ref b_times, .int x_t_asked, .ref b_whoBore, .ref b_gives, .ref b_best, .ref b_holds, .ref b_refused, .ref b_sums, .ref b_image, .ref b_isKept])), (a_lucky, .inl (cI, 5, .inl f_lucky))]) rfl ?_
        refine ww_lsub B dX8_asks_61 ?_
        refine ww_lmul B dX8_asks_62 ?_
        refine ww_topl (fun v6_63 ev6_63 => ?_)
        replace h := og_l ev6_63 h
        refine ww_lstore B dX8_asks_63 (lv' := [(6, .long v6_63), (4, .long q_37), (0, .ref a_t), (1, .int v1), (2, .int v2), (3, .int v3)]) (by decide) rfl ?_
        refine ww_lload B dX8_asks_65 0 rfl ?_
        refine ww_lload B dX8_asks_67 1 rfl ?_
        refine ww_ladd B dX8_asks_69 ?_
        refine ww_lconst B dX8_asks_70 (v := 1) (by decide) ?_
        refine ww_lsub B dX8_asks_71 ?_
        refine ww_lload B dX8_asks_72 1 rfl ?_
        obtain ⟨z_74, h⟩ := og_n h
        refine ww_ldiv B dX8_asks_74 z_74 ?_
        refine ww_l2i B dX8_asks_75 rfl ?_
        exact ww_iret B hA hQ hr dX8_asks_76 () [0, 1] rfl (by decide) (og_s h).symm
      · replace h := og_t c_27 h
        refine ww_bipush B dX8_asks_30 (v := (-2)) (by decide) ?_
        exact ww_iret B hA hQ hr dX8_asks_32 () [0, 1] rfl (by decide) (og_s h).symm
  · replace h := og_t c_4 h
    refine ww_iconst B dX8_asks_7 (v := (-1)) (by decide) ?_
    exact ww_iret B hA hQ hr dX8_asks_8 () [0, 1] rfl (by decide) (og_s h).symm
noncomputable def m_X8_beginLog_41b (k41 : Int32 → (Nat → Int32) → (Nat → Int32) → (Nat → Int32) → (Nat → Int32) → (Nat → Int32) → (Nat → Int32) → (Nat → Int32) → Int32 → Int32 → Option ((Nat → Int32) × (Nat → Int32) × (Nat → Int32) × (Nat → Int32) × (Nat → Int32) × (Nat → Int32) × (Nat → Int32) × Int32 × Int32)) (v1 : Int32) (f_bears : (Nat → Int32)) (f_borneBy : (Nat → Int32)) (f_due : (Nat → Int32)) (f_gone : (Nat → Int32)) (f_sunk : (Nat → Int32)) (f_times : (Nat → Int32)) (f_whoBore : (Nat → Int32)) (x_t_day : Int32) (x_t_reason : Int32) : Option ((Nat → Int32) × (Nat → Int32) × (Nat → Int32) × (Nat → Int32) × (Nat → Int32) × (Nat → Int32) × (Nat → Int32) × Int32 × Int32) := if 5 ≤ v1 then (some (f_bears, f_borneBy, f_due, f_gone, f_sunk, f_times, f_whoBore, x_t_day, x_t_reason)) else (ogi v1 5 (ogi v1 5 (ogi v1 5 (ogi v1 5 (ogi v1 5 (ogl (v1 + 1) (fun (v1_83 : Int32) => (k41 v1_83 f_bears (upd f_borneBy (Int32.toNatClampNeg v1) (-6)) (upd f_due (Int32.toNatClampNeg v1) 0) (upd f_gone (Int32.toNatClampNeg v1) (vp_nar .boolean 0)) f_sunk (upd f_times (Int32.toNatClampNeg v1) 0) (upd f_whoBore (Int32.toNatClampNeg v1) (-6)) x_t_day x_t_reason))))))))
noncomputable def m_X8_beginLog_41 (fuel : Nat) : Int32 → (Nat → Int32) → (Nat → Int32) → (Nat → Int32) → (Nat → Int32) → (Nat → Int32) → (Nat → Int32) → (Nat → Int32) → Int32 → Int32 → Option ((Nat → Int32) × (Nat → Int32) × (Nat → Int32) × (Nat → Int32) × (Nat → Int32) × (Nat → Int32) × (Nat → Int32) × Int32 × Int32) := Nat.rec (fun _ _ _ _ _ _ _ _ _ _ => none) (fun _ k41 => m_X8_beginLog_41b k41) fuel
noncomputable def m_X8_beginLog_12b (k12 : Int32 → (Nat → Int32) → (Nat → Int32) → (Nat → Int32) → (Nat → Int32) → (Nat → Int32) → (Nat → Int32) → (Nat → Int32) → Int32 → Int32 → Option ((Nat → Int32) × (Nat → Int32) × (Nat → Int32) × (Nat → Int32) × (Nat → Int32) × (Nat → Int32) × (Nat → Int32) × Int32 × Int32)) (v1 : Int32) (f_bears : (Nat → Int32)) (f_borneBy : (Nat → Int32)) (f_due : (Nat → Int32)) (f_gone : (Nat → Int32)) (f_sunk : (Nat → Int32)) (f_times : (Nat → Int32)) (f_whoBore : (Nat → Int32)) (x_t_day : Int32) (x_t_reason : Int32) : Option ((Nat → Int32) × (Nat → Int32) × (Nat → Int32) × (Nat → Int32) × (Nat → Int32) × (Nat → Int32) × (Nat → Int32) × Int32 × Int32) := if 6 ≤ v1 then ((m_X8_beginLog_41 1000000 0 f_bears f_borneBy f_due f_gone f_sunk f_times f_whoBore x_t_day x_t_reason)) else (ogi v1 6 (ogi v1 6 (ogl (v1 + 1) (fun (v1_33 : Int32) => (k12 v1_33 (upd f_bears (Int32.toNatClampNeg v1) (-6)) f_borneBy f_due f_gone (upd f_sunk (Int32.toNatClampNeg v1) (vp_nar .boolean 0)) f_times f_whoBore x_t_day x_t_reason)))))
noncomputable def m_X8_beginLog_12 (fuel : Nat) : Int32 → (Nat → Int32) → (Nat → Int32) → (Nat → Int32) → (Nat → Int32) → (Nat → Int32) → (Nat → Int32) → (Nat → Int32) → Int32 → Int32 → Option ((Nat → Int32) × (Nat → Int32) × (Nat → Int32) × (Nat → Int32) × (Nat → Int32) × (Nat → Int32) × (Nat → Int32) × Int32 × Int32) := Nat.rec (fun _ _ _ _ _ _ _ _ _ _ => none) (fun _ k12 => m_X8_beginLog_12b k12) fuel
noncomputable def m_X8_beginLog (f_bears : (Nat → Int32)) (f_borneBy : (Nat → Int32)) (f_due : (Nat → Int32)) (f_gone : (Nat → Int32)) (f_sunk : (Nat → Int32)) (f_times : (Nat → Int32)) (f_whoBore : (Nat → Int32)) (x_t_day : Int32) (x_t_reason : Int32) : Option ((Nat → Int32) × (Nat → Int32) × (Nat → Int32) × (Nat → Int32) × (Nat → Int32) × (Nat → Int32) × (Nat → Int32) × Int32 × Int32) := (m_X8_beginLog_12 1000000 0 f_bears f_borneBy f_due f_gone f_sunk f_times f_whoBore 0 0)
set_option maxHeartbeats 4000000 in
set_option maxRecDepth 100000 in
theorem c_X8_beginLog (l : Launch) (D : va_G) (cI cZ : ClassId) (a_t a_bears a_borneBy a_due a_gone a_sunk a_times a_whoBore b_may b_voyage b_lucky b_worths b_ranks b_pad b_gives b_best b_holds b_refused b_sums b_image b_isKept : Nat) (f_bears : (Nat → Int32)) (f_borneBy : (Nat → Int32)) (f_due : (Nat → Int32)) (f_gone : (Nat → Int32)) (f_sunk : (Nat → Int32)) (f_times : (Nat → Int32)) (f_whoBore : (Nat → Int32)) (x_t_signs : Int32) (x_t_day : Int32) (x_t_reason : Int32) (x_t_asked : Int32) {res : ((Nat → Int32) × (Nat → Int32) × (Nat → Int32) × (Nat → Int32) × (Nat → Int32) × (Nat → Int32) × (Nat → Int32) × Int32 × Int32)} (h : m_X8_beginLog f_bears f_borneBy f_due f_gone f_sunk f_times f_whoBore x_t_day x_t_reason = some res) : CT l yX8_beginLog wsX8_beginLog ({ frames := 0, cells := 0, slots := 0, locals := 0 } : Room) D cI cZ [.ref a_t] [(a_t, .inr (8, [.ref b_may, .ref b_voyage, .ref b_lucky, .ref b_worths, .ref b_ranks, .int x_t_signs, .ref b_pad, .int x_t_day, .int x_t_reason, .ref a_bears, .ref a_due, .ref a_borneBy, .ref a_gone, .ref a_sunk, .ref a_times, .int x_t_asked, .ref a_whoBore, .ref b_gives, .ref b_best, .ref b_holds, .ref b_refused, .ref b_sums, .ref b_image, .ref b_isKept])), (a_bears, .inl (cI, 6, .inl f_bears)), (a_borneBy, .inl (cI, 5, .inl f_borneBy)), (a_due, .inl (cI, 5, .inl f_due)), (a_gone, .inl (cZ, 5, .inl f_gone)), (a_sunk, .inl (cZ, 6, .inl f_sunk)), (a_times, .inl (cI, 5, .inl f_times)), (a_whoBore, .inl (cI, 5, .inl f_whoBore))] (QV D [(a_t, .inr (8, [.ref b_may, .ref b_voyage, .ref b_lucky, .ref b_worths, .ref b_ranks, .int x_t_signs, .ref b_pad, .int x_t_day, .int x_t_reason, .ref a_bears, .ref a_due, .ref a_borneBy, .ref a_gone, .ref a_sunk, .ref a_times, .int x_t_asked, .ref a_whoBore, .ref b_gives, .ref b_best, .ref b_holds, .ref b_refused, .ref b_sums, .ref b_image, .ref b_isKept])), (a_bears, .inl (cI, 6, .inl f_bears)), (a_borneBy, .inl (cI, 5, .inl f_borneBy)), (a_due, .inl (cI, 5, .inl f_due)), (a_gone, .inl (cZ, 5, .inl f_gone)), (a_sunk, .inl (cZ, 6, .inl f_sunk)), (a_times, .inl (cI, 5, .inl f_times)), (a_whoBore, .inl (cI, 5, .inl f_whoBore))] (fun (u : (Nat → Int32) × (Nat → Int32) × (Nat → Int32) × (Nat → Int32) × (Nat → Int32) × (Nat → Int32) × (Nat → Int32) × Int32 × Int32) => u = res) (fun (u : (Nat → Int32) × (Nat → Int32) × (Nat → Int32) × (Nat → Int32) × (Nat → Int32) × (Nat → Int32) × (Nat → Int32) × Int32 × Int32) => [(a_t, .inr (8, [.ref b_may, .ref b_voyage, .ref b_lucky, .ref b_worths, .ref b_ranks, .int x_t_signs, .ref b_pad, .int u.2.2.2.2.2.2.2.1, .int u.2.2.2.2.2.2.2.2, .ref a_bears, .ref a_due, .ref a_borneBy, .ref a_gone, .ref a_sunk, .ref a_times, .int x_t_asked, .ref a_whoBore, .ref b_gives, .ref b_best, .ref b_holds, .ref b_refused, .ref b_sums, .ref b_image, .ref b_isKept])), (a_bears, .inl (cI, 6, .inl u.1)), (a_borneBy, .inl (cI, 5, .inl u.2.1)), (a_due, .inl (cI, 5, .inl u.2.2.1)), (a_gone, .inl (cZ, 5, .inl u.2.2.2.1)), (a_sunk, .inl (cZ, 6, .inl u.2.2.2.2.1)), (a_times, .inl (cI, 5, .inl u.2.2.2.2.2.1)), (a_whoBore, .inl (cI, 5, .inl u.2.2.2.2.2.2.1))])) 0 0 := by
  have h : ((m_X8_beginLog_12 1000000 0 f_bears f_borneBy f_due f_gone f_sunk f_times f_whoBore 0 0) : Option ((Nat → Int32) × (Nat → Int32) × (Nat → Int32) × (Nat → Int32) × (Nat → Int32) × (Nat → Int32) × (Nat → Int32) × Int32 × Int32)) = some res := h
  refine ct_entry (cc := cX8_beginLog) (nl := 2) (ret := none) (own := RX8) (lv0 := [(0, .ref a_t)]) (by decide) rfl rfl (Nat.le_of_ble_eq_true rfl) rfl ?_
  intro p e s m args below meth c A Q hA hQ hr hnm B
  have iX8 : ∀ w ∈ wsX80, w ∈ wsX8_beginLog := by decide +kernel
  have cut_41 : ∀ (fuel : Nat) (v1 : Int32) (f_bears : (Nat → Int32)) (f_borneBy : (Nat → Int32)) (f_due : (Nat → Int32)) (f_gone : (Nat → Int32)) (f_sunk : (Nat → Int32)) (f_times : (Nat → Int32)) (f_whoBore : (Nat → Int32)) (x_t_day : Int32) (x_t_reason : Int32), m_X8_beginLog_41 fuel v1 f_bears f_borneBy f_due f_gone f_sunk f_times f_whoBore x_t_day x_t_reason = some res → WW p l e (headSpec wsX8_beginLog ({ frames := 0, cells := 0, slots := 0, locals := 0 } : Room)).room s m args below meth c D A 2 0 0 Q [(a_t, .inr (8, [.ref b_may, .ref b_voyage, .ref b_lucky, .ref b_worths, .ref b_ranks, .int x_t_signs, .ref b_pad, .int x_t_day, .int x_t_reason, .ref a_bears, .ref a_due, .ref a_borneBy, .ref a_gone, .ref a_sunk, .ref a_times, .int x_t_asked, .ref a_whoBore, .ref b_gives, .ref b_best, .ref b_holds, .ref b_refused, .ref b_sums, .ref b_image, .ref b_isKept])), (a_bears, .inl (cI, 6, .inl f_bears)), (a_borneBy, .inl (cI, 5, .inl f_borneBy)), (a_due, .inl (cI, 5, .inl f_due)), (a_gone, .inl (cZ, 5, .inl f_gone)), (a_sunk, .inl (cZ, 6, .inl f_sunk)), (a_times, .inl (cI, 5, .inl f_times)), (a_whoBore, .inl (cI, 5, .inl f_whoBore))] [(0, .ref a_t), (1, .int v1)] [] 41 := by
    intro fuel_41
    induction fuel_41 with
    | zero => intro v1 f_bears f_borneBy f_due f_gone f_sunk f_times f_whoBore x_t_day x_t_reason h; exact og_0 h
    | succ fuel_41 ih_41 =>
      intro v1 f_bears f_borneBy f_due f_gone f_sunk f_times f_whoBore x_t_day x_t_reason h
      replace h : (if 5 ≤ v1 then (some (f_bears, f_borneBy, f_due, f_gone, f_sunk, f_times, f_whoBore, x_t_day, x_t_reason)) else (ogi v1 5 (ogi v1 5 (ogi v1 5 (ogi v1 5 (ogi v1 5 (ogl (v1 + 1) (fun (v1_83 : Int32) => ((m_X8_beginLog_41 fuel_41) v1_83 f_bears (upd f_borneBy (Int32.toNatClampNeg v1) (-6)) (upd f_due (Int32.toNatClampNeg v1) 0) (upd f_gone (Int32.toNatClampNeg v1) (vp_nar .boolean 0)) f_sunk (upd f_times (Int32.toNatClampNeg v1) 0) (upd f_whoBore (Int32.toNatClampNeg v1) (-6)) x_t_day x_t_reason)))))))) : Option ((Nat → Int32) × (Nat → Int32) × (Nat → Int32) × (Nat → Int32) × (Nat → Int32) × (Nat → Int32) × (Nat → Int32) × Int32 × Int32)) = some res := h
      refine ww_iload_n B dX8_beginLog_41 1 rfl ?_
      refine ww_iconst B dX8_beginLog_42 (v := 5) (by decide) ?_
      refine ww_icmp_ge B 89 dX8_beginLog_43 (by decide) (fun c_43 => ?_) (fun c_43 => ?_)
      · replace h := og_t c_43 h
        exact ww_vret B hA hQ hr dX8_beginLog_89 (f_bears, f_borneBy, f_due, f_gone, f_sunk, f_times, f_whoBore, x_t_day, x_t_reason) [0, 1, 2, 3, 4, 5, 6, 7] rfl (by decide) (og_s h).symm
      · replace h := og_f c_43 h
        refine ww_aload_n B dX8_beginLog_46 0 rfl ?_
        refine ww_get (ci := 8) (T := TX8) (C := RX8) (N := 24) B iX8 0 rfl rfl 10 (by decide) (by decide +kernel) rfl rfl dX8_beginLog_47 ?_
        refine ww_iload_n B dX8_beginLog_50 1 rfl ?_
        refine ww_iconst B dX8_beginLog_51 (v := 0) (by decide) ?_
        obtain ⟨i_52, h⟩ := og_i h
        refine ww_iast B 3 rfl i_52 dX8_beginLog_52 (ws' := [(a_t, .inr (8, [.ref b_may, .ref b_voyage, .ref b_lucky, .ref b_worths, .ref b_ranks, .int x_t_signs, .ref b_pad, .int x_t_day, .int x_t_reason, .ref a_bears, .ref a_due, .ref a_borneBy, .ref a_gone, .ref a_sunk, .ref a_times, .int x_t_asked, .ref a_whoBore, .ref b_gives, .ref b_best, .ref b_holds, .ref b_refused, .ref b_sums, .ref b_image, .ref b_isKept])), (a_bears, .inl (cI, 6, .inl f_bears)), (a_borneBy, .inl (cI, 5, .inl f_borneBy)), (a_due, .inl (cI, 5, .inl (upd f_due (Int32.toNatClampNeg v1) 0))), (a_gone, .inl (cZ, 5, .inl f_gone)), (a_sunk, .inl (cZ, 6, .inl f_sunk)), (a_times, .inl (cI, 5, .inl f_times)), (a_whoBore, .inl (cI, 5, .inl f_whoBore))]) rfl ?_
        refine ww_aload_n B dX8_beginLog_53 0 rfl ?_
        refine ww_get (ci := 8) (T := TX8) (C := RX8) (N := 24) B iX8 0 rfl rfl 11 (by decide) (by decide +kernel) rfl rfl dX8_beginLog_54 ?_
        refine ww_iload_n B dX8_beginLog_57 1 rfl ?_
        refine ww_bipush B dX8_beginLog_58 (v := (-6)) (by decide) ?_
        obtain ⟨i_60, h⟩ := og_i h
        refine ww_iast B 2 rfl i_60 dX8_beginLog_60 (ws' := [(a_t, .inr (8, [.ref b_may, .ref b_voyage, .ref b_lucky, .ref b_worths, .ref b_ranks, .int x_t_signs, .ref b_pad, .int x_t_day, .int x_t_reason, .ref a_bears, .ref a_due, .ref a_borneBy, .ref a_gone, .ref a_sunk, .ref a_times, .int x_t_asked, .ref a_whoBore, .ref b_gives, .ref b_best, .ref b_holds, .ref b_refused, .ref b_sums, .ref b_image, .ref b_isKept])), (a_bears, .inl (cI, 6, .inl f_bears)), (a_borneBy, .inl (cI, 5, .inl (upd f_borneBy (Int32.toNatClampNeg v1) (-6)))), (a_due, .inl (cI, 5, .inl (upd f_due (Int32.toNatClampNeg v1) 0))), (a_gone, .inl (cZ, 5, .inl f_gone)), (a_sunk, .inl (cZ, 6, .inl f_sunk)), (a_times, .inl (cI, 5, .inl f_times)), (a_whoBore, .inl (cI, 5, .inl f_whoBore))]) rfl ?_
        refine ww_aload_n B dX8_beginLog_61 0 rfl ?_
        refine ww_get (ci := 8) (T := TX8) (C := RX8) (N := 24) B iX8 0 rfl rfl 12 (by decide) (by decide +kernel) rfl rfl dX8_beginLog_62 ?_
        refine ww_iload_n B dX8_beginLog_65 1 rfl ?_
        refine ww_iconst B dX8_beginLog_66 (v := 0) (by decide) ?_
        obtain ⟨i_67, h⟩ := og_i h
        refine ww_zast B 4 rfl i_67 dX8_beginLog_67 (ws' := [(a_t, .inr (8, [.ref b_may, .ref b_voyage, .ref b_lucky, .ref b_worths, .ref b_ranks, .int x_t_signs, .ref b_pad, .int x_t_day, .int x_t_reason, .ref a_bears, .ref a_due, .ref a_borneBy, .ref a_gone, .ref a_sunk, .ref a_times, .int x_t_asked, .ref a_whoBore, .ref b_gives, .ref b_best, .ref b_holds, .ref b_refused, .ref b_sums, .ref b_image, .ref b_isKept])), (a_bears, .inl (cI, 6, .inl f_bears)), (a_borneBy, .inl (cI, 5, .inl (upd f_borneBy (Int32.toNatClampNeg v1) (-6)))), (a_due, .inl (cI, 5, .inl (upd f_due (Int32.toNatClampNeg v1) 0))), (a_gone, .inl (cZ, 5, .inl (upd f_gone (Int32.toNatClampNeg v1) (vp_nar .boolean 0)))), (a_sunk, .inl (cZ, 6, .inl f_sunk)), (a_times, .inl (cI, 5, .inl f_times)), (a_whoBore, .inl (cI, 5, .inl f_whoBore))]) rfl ?_
        refine ww_aload_n B dX8_beginLog_68 0 rfl ?_
        refine ww_get (ci := 8) (T := TX8) (C := RX8) (N := 24) B iX8 0 rfl rfl 14 (by decide) (by decide +kernel) rfl rfl dX8_beginLog_69 ?_
        refine ww_iload_n B dX8_beginLog_72 1 rfl ?_
        refine ww_iconst B dX8_beginLog_73 (v := 0) (by decide) ?_
        obtain ⟨i_74, h⟩ := og_i h
        refine ww_iast B 6 rfl i_74 dX8_beginLog_74 (ws' := [(a_t, .inr (8, [.ref b_may, .ref b_voyage, .ref b_lucky, .ref b_worths, .ref b_ranks, .int x_t_signs, .ref b_pad, .int x_t_day, .int x_t_reason, .ref a_bears, .ref a_due, .ref a_borneBy, .ref a_gone, .ref a_sunk, .ref a_times, .int x_t_asked, .ref a_whoBore, .ref b_gives, .ref b_best, .ref b_holds, .ref b_refused, .ref b_sums, .ref b_image, .ref b_isKept])), (a_bears, .inl (cI, 6, .inl f_bears)), (a_borneBy, .inl (cI, 5, .inl (upd f_borneBy (Int32.toNatClampNeg v1) (-6)))), (a_due, .inl (cI, 5, .inl (upd f_due (Int32.toNatClampNeg v1) 0))), (a_gone, .inl (cZ, 5, .inl (upd f_gone (Int32.toNatClampNeg v1) (vp_nar .boolean 0)))), (a_sunk, .inl (cZ, 6, .inl f_sunk)), (a_times, .inl (cI, 5, .inl (upd f_times (Int32.toNatClampNeg v1) 0))), (a_whoBore, .inl (cI, 5, .inl f_whoBore))]) rfl ?_
        refine ww_aload_n B dX8_beginLog_75 0 rfl ?_
        refine ww_get (ci := 8) (T := TX8) (C := RX8) (N := 24) B iX8 0 rfl rfl 16 (by decide) (by decide +kernel) rfl rfl dX8_beginLog_76 ?_
        refine ww_iload_n B dX8_beginLog_79 1 rfl ?_
        refine ww_bipush B dX8_beginLog_80 (v := (-6)) (by decide) ?_
        obtain ⟨i_82, h⟩ := og_i h
        refine ww_iast B 7 rfl i_82 dX8_beginLog_82 (ws' := [(a_t, .inr (8, [.ref b_may, .ref b_voyage, .ref b_lucky, .ref b_worths, .ref b_ranks, .int x_t_signs, .ref b_pad, .int x_t_day, .int x_t_reason, .ref a_bears, .ref a_due, .ref a_borneBy, .ref a_gone, .ref a_sunk, .ref a_times, .int x_t_asked, .ref a_whoBore, .ref b_gives, .ref b_best, .ref b_holds, .ref b_refused, .ref b_sums, .ref b_image, .ref b_isKept])), (a_bears, .inl (cI, 6, .inl f_bears)), (a_borneBy, .inl (cI, 5, .inl (upd f_borneBy (Int32.toNatClampNeg v1) (-6)))), (a_due, .inl (cI, 5, .inl (upd f_due (Int32.toNatClampNeg v1) 0))), (a_gone, .inl (cZ, 5, .inl (upd f_gone (Int32.toNatClampNeg v1) (vp_nar .boolean 0)))), (a_sunk, .inl (cZ, 6, .inl f_sunk)), (a_times, .inl (cI, 5, .inl (upd f_times (Int32.toNatClampNeg v1) 0))), (a_whoBore, .inl (cI, 5, .inl (upd f_whoBore (Int32.toNatClampNeg v1) (-6))))]) rfl ?_
        obtain ⟨v1_83, ev1_83⟩ : ∃ y : Int32, y = (v1 + 1) := ⟨_, rfl⟩
        refine ww_iinc B dX8_beginLog_83 1 rfl (v := v1_83) (by rw [ev1_83]; rfl) (by decide) (lv' := [(1, .int v1_83), (0, .ref a_t)]) rfl ?_
        replace h := og_l ev1_83 h
        refine ww_goto B 41 dX8_beginLog_86 (by decide) ?_
        refine ww_lsel (lv' := [(0, .ref a_t), (1, .int v1_83)]) [1, 0] rfl ?_
        exact ih_41 _ _ _ _ _ _ _ _ _ _ h
  have cut_12 : ∀ (fuel : Nat) (v1 : Int32) (f_bears : (Nat → Int32)) (f_borneBy : (Nat → Int32)) (f_due : (Nat → Int32)) (f_gone : (Nat → Int32)) (f_sunk : (Nat → Int32)) (f_times : (Nat → Int32)) (f_whoBore : (Nat → Int32)) (x_t_day : Int32) (x_t_reason : Int32), m_X8_beginLog_12 fuel v1 f_bears f_borneBy f_due f_gone f_sunk f_times f_whoBore x_t_day x_t_reason = some res → WW p l e (headSpec wsX8_beginLog ({ frames := 0, cells := 0, slots := 0, locals := 0 } : Room)).room s m args below meth c D A 2 0 0 Q [(a_t, .inr (8, [.ref b_may, .ref b_voyage, .ref b_lucky, .ref b_worths, .ref b_ranks, .int x_t_signs, .ref b_pad, .int x_t_day, .int x_t_reason, .ref a_bears, .ref a_due, .ref a_borneBy, .ref a_gone, .ref a_sunk, .ref a_times, .int x_t_asked, .ref a_whoBore, .ref b_gives, .ref b_best, .ref b_holds, .ref b_refused, .ref b_sums, .ref b_image, .ref b_isKept])), (a_bears, .inl (cI, 6, .inl f_bears)), (a_borneBy, .inl (cI, 5, .inl f_borneBy)), (a_due, .inl (cI, 5, .inl f_due)), (a_gone, .inl (cZ, 5, .inl f_gone)), (a_sunk, .inl (cZ, 6, .inl f_sunk)), (a_times, .inl (cI, 5, .inl f_times)), (a_whoBore, .inl (cI, 5, .inl f_whoBore))] [(0, .ref a_t), (1, .int v1)] [] 12 := by
    intro fuel_12
    induction fuel_12 with
    | zero => intro v1 f_bears f_borneBy f_due f_gone f_sunk f_times f_whoBore x_t_day x_t_reason h; exact og_0 h
    | succ fuel_12 ih_12 =>
      intro v1 f_bears f_borneBy f_due f_gone f_sunk f_times f_whoBore x_t_day x_t_reason h
      replace h : (if 6 ≤ v1 then ((m_X8_beginLog_41 1000000 0 f_bears f_borneBy f_due f_gone f_sunk f_times f_whoBore x_t_day x_t_reason)) else (ogi v1 6 (ogi v1 6 (ogl (v1 + 1) (fun (v1_33 : Int32) => ((m_X8_beginLog_12 fuel_12) v1_33 (upd f_bears (Int32.toNatClampNeg v1) (-6)) f_borneBy f_due f_gone (upd f_sunk (Int32.toNatClampNeg v1) (vp_nar .boolean 0)) f_times f_whoBore x_t_day x_t_reason))))) : Option ((Nat → Int32) × (Nat → Int32) × (Nat → Int32) × (Nat → Int32) × (Nat → Int32) × (Nat → Int32) × (Nat → Int32) × Int32 × Int32)) = some res := h
      refine ww_iload_n B dX8_beginLog_12 1 rfl ?_
      refine ww_bipush B dX8_beginLog_13 (v := 6) (by decide) ?_
      refine ww_icmp_ge B 39 dX8_beginLog_15 (by decide) (fun c_15 => ?_) (fun c_15 => ?_)
      · replace h := og_t c_15 h
        refine ww_iconst B dX8_beginLog_39 (v := 0) (by decide) ?_
        refine ww_istore_n B dX8_beginLog_40 (lv' := [(1, .int 0), (0, .ref a_t)]) (by decide) rfl ?_
        refine ww_lsel (lv' := [(0, .ref a_t), (1, .int 0)]) [1, 0] rfl ?_
        exact cut_41 _ _ _ _ _ _ _ _ _ _ _ h
      · replace h := og_f c_15 h
        refine ww_aload_n B dX8_beginLog_18 0 rfl ?_
        refine ww_get (ci := 8) (T := TX8) (C := RX8) (N := 24) B iX8 0 rfl rfl 9 (by decide) (by decide +kernel) rfl rfl dX8_beginLog_19 ?_
        refine ww_iload_n B dX8_beginLog_22 1 rfl ?_
        refine ww_bipush B dX8_beginLog_23 (v := (-6)) (by decide) ?_
        obtain ⟨i_25, h⟩ := og_i h
        refine ww_iast B 1 rfl i_25 dX8_beginLog_25 (ws' := [(a_t, .inr (8, [.ref b_may, .ref b_voyage, .ref b_lucky, .ref b_worths, .ref b_ranks, .int x_t_signs, .ref b_pad, .int x_t_day, .int x_t_reason, .ref a_bears, .ref a_due, .ref a_borneBy, .ref a_gone, .ref a_sunk, .ref a_times, .int x_t_asked, .ref a_whoBore, .ref b_gives, .ref b_best, .ref b_holds, .ref b_refused, .ref b_sums, .ref b_image, .ref b_isKept])), (a_bears, .inl (cI, 6, .inl (upd f_bears (Int32.toNatClampNeg v1) (-6)))), (a_borneBy, .inl (cI, 5, .inl f_borneBy)), (a_due, .inl (cI, 5, .inl f_due)), (a_gone, .inl (cZ, 5, .inl f_gone)), (a_sunk, .inl (cZ, 6, .inl f_sunk)), (a_times, .inl (cI, 5, .inl f_times)), (a_whoBore, .inl (cI, 5, .inl f_whoBore))]) rfl ?_
        refine ww_aload_n B dX8_beginLog_26 0 rfl ?_
        refine ww_get (ci := 8) (T := TX8) (C := RX8) (N := 24) B iX8 0 rfl rfl 13 (by decide) (by decide +kernel) rfl rfl dX8_beginLog_27 ?_
        refine ww_iload_n B dX8_beginLog_30 1 rfl ?_
        refine ww_iconst B dX8_beginLog_31 (v := 0) (by decide) ?_
        obtain ⟨i_32, h⟩ := og_i h
        refine ww_zast B 5 rfl i_32 dX8_beginLog_32 (ws' := [(a_t, .inr (8, [.ref b_may, .ref b_voyage, .ref b_lucky, .ref b_worths, .ref b_ranks, .int x_t_signs, .ref b_pad, .int x_t_day, .int x_t_reason, .ref a_bears, .ref a_due, .ref a_borneBy, .ref a_gone, .ref a_sunk, .ref a_times, .int x_t_asked, .ref a_whoBore, .ref b_gives, .ref b_best, .ref b_holds, .ref b_refused, .ref b_sums, .ref b_image, .ref b_isKept])), (a_bears, .inl (cI, 6, .inl (upd f_bears (Int32.toNatClampNeg v1) (-6)))), (a_borneBy, .inl (cI, 5, .inl f_borneBy)), (a_due, .inl (cI, 5, .inl f_due)), (a_gone, .inl (cZ, 5, .inl f_gone)), (a_sunk, .inl (cZ, 6, .inl (upd f_sunk (Int32.toNatClampNeg v1) (vp_nar .boolean 0)))), (a_times, .inl (cI, 5, .inl f_times)), (a_whoBore, .inl (cI, 5, .inl f_whoBore))]) rfl ?_
        obtain ⟨v1_33, ev1_33⟩ : ∃ y : Int32, y = (v1 + 1) := ⟨_, rfl⟩
        refine ww_iinc B dX8_beginLog_33 1 rfl (v := v1_33) (by rw [ev1_33]; rfl) (by decide) (lv' := [(1, .int v1_33), (0, .ref a_t)]) rfl ?_
        replace h := og_l ev1_33 h
        refine ww_goto B 12 dX8_beginLog_36 (by decide) ?_
        refine ww_lsel (lv' := [(0, .ref a_t), (1, .int v1_33)]) [1, 0] rfl ?_
        exact ih_12 _ _ _ _ _ _ _ _ _ _ h
  refine ww_aload_n B dX8_beginLog_0 0 rfl ?_
  refine ww_iconst B dX8_beginLog_1 (v := 0) (by decide) ?_
  refine ww_put (ci := 8) (T := TX8) (C := RX8) (N := 24) (ty := .int) B iX8 tyX8 tyX8_ok nmX8 0 rfl rfl 7 (by decide) (by decide +kernel) rfl rfl (by decide +kernel) rfl rfl (Nat.le_of_ble_eq_true rfl) dX8_beginLog_2 (ws' := [(a_t, .inr (8, [.ref b_may, .ref b_voyage, .ref b_lucky, .ref b_worths, .ref b_ranks, .int x_t_signs, .ref b_pad, .int 0, .int x_t_reason, .ref a_bears, .ref a_due, .ref a_borneBy, .ref a_gone, .ref a_sunk, .ref a_times, .int x_t_asked, .ref a_whoBore, .ref b_gives, .ref b_best, .ref b_holds, .ref b_refused, .ref b_sums, .ref b_image, .ref b_isKept])), (a_bears, .inl (cI, 6, .inl f_bears)), (a_borneBy, .inl (cI, 5, .inl f_borneBy)), (a_due, .inl (cI, 5, .inl f_due)), (a_gone, .inl (cZ, 5, .inl f_gone)), (a_sunk, .inl (cZ, 6, .inl f_sunk)), (a_times, .inl (cI, 5, .inl f_times)), (a_whoBore, .inl (cI, 5, .inl f_whoBore))]) rfl ?_
  refine ww_aload_n B dX8_beginLog_5 0 rfl ?_
  refine ww_iconst B dX8_beginLog_6 (v := 0) (by decide) ?_
  refine ww_put (ci := 8) (T := TX8) (C := RX8) (N := 24) (ty := .int) B iX8 tyX8 tyX8_ok nmX8 0 rfl rfl 8 (by decide) (by decide +kernel) rfl rfl (by decide +kernel) rfl rfl (Nat.le_of_ble_eq_true rfl) dX8_beginLog_7 (ws' := [(a_t, .inr (8, [.ref b_may, .ref b_voyage, .ref b_lucky, .ref b_worths, .ref b_ranks, .int x_t_signs, .ref b_pad, .int 0, .int 0, .ref a_bears, .ref a_due, .ref a_borneBy, .ref a_gone, .ref a_sunk, .ref a_times, .int x_t_asked, .ref a_whoBore, .ref b_gives, .ref b_best, .ref b_holds, .ref b_refused, .ref b_sums, .ref b_image, .ref b_isKept])), (a_bears, .inl (cI, 6, .inl f_bears)), (a_borneBy, .inl (cI, 5, .inl f_borneBy)), (a_due, .inl (cI, 5, .inl f_due)), (a_gone, .inl (cZ, 5, .inl f_gone)), (a_sunk, .inl (cZ, 6, .inl f_sunk)), (a_times, .inl (cI, 5, .inl f_times)), (a_whoBore, .inl (cI, 5, .inl f_whoBore))]) rfl ?_
  refine ww_iconst B dX8_beginLog_10 (v := 0) (by decide) ?_
  refine ww_istore_n B dX8_beginLog_11 (lv' := [(1, .int 0), (0, .ref a_t)]) (by decide) rfl ?_
  refine ww_lsel (lv' := [(0, .ref a_t), (1, .int 0)]) [1, 0] rfl ?_
  exact cut_12 _ _ _ _ _ _ _ _ _ _ _ h
noncomputable def m_X8_opens_29 (k4 : Int32 → Int32 → Option Int32) (f_pad : (Nat → Int32)) (x_t_signs : Int32) (v2 : Int32) (s0 : Int32) (s1 : Int32) : Option Int32 := ogl (s0 + s1) (fun (v1_30 : Int32) => ogl (v2 + 1) (fun (v2_31 : Int32) => (k4 v1_30 v2_31)))
noncomputable def m_X8_opens_4b (k4 : Int32 → Int32 → Option Int32) (f_pad : (Nat → Int32)) (x_t_signs : Int32) (v1 : Int32) (v2 : Int32) : Option Int32 := if x_t_signs ≤ v2 then (some v1) else (ogi v2 48 (if (f_pad (Int32.toNatClampNeg v2)) = 63 then ((m_X8_opens_29 k4 f_pad x_t_signs v2 v1 1)) else ((m_X8_opens_29 k4 f_pad x_t_signs v2 v1 0))))
noncomputable def m_X8_opens_4 (f_pad : (Nat → Int32)) (x_t_signs : Int32) (fuel : Nat) : Int32 → Int32 → Option Int32 := Nat.rec (fun _ _ => none) (fun _ k4 => m_X8_opens_4b k4 f_pad x_t_signs) fuel
noncomputable def m_X8_opens (f_pad : (Nat → Int32)) (x_t_signs : Int32) : Option Int32 := (m_X8_opens_4 f_pad x_t_signs 1000000 0 0)
set_option maxHeartbeats 4000000 in
set_option maxRecDepth 100000 in
theorem c_X8_opens (l : Launch) (D : va_G) (cI cZ : ClassId) (a_t a_pad b_may b_voyage b_lucky b_worths b_ranks b_bears b_due b_borneBy b_gone b_sunk b_times b_whoBore b_gives b_best b_holds b_refused b_sums b_image b_isKept : Nat) (f_pad : (Nat → Int32)) (x_t_signs : Int32) (x_t_day : Int32) (x_t_reason : Int32) (x_t_asked : Int32) {res : Int32} (h : m_X8_opens f_pad x_t_signs = some res) : CT l yX8_opens wsX8_opens ({ frames := 0, cells := 0, slots := 0, locals := 0 } : Room) D cI cZ [.ref a_t] [(a_t, .inr (8, [.ref b_may, .ref b_voyage, .ref b_lucky, .ref b_worths, .ref b_ranks, .int x_t_signs, .ref a_pad, .int x_t_day, .int x_t_reason, .ref b_bears, .ref b_due, .ref b_borneBy, .ref b_gone, .ref b_sunk, .ref b_times, .int x_t_asked, .ref b_whoBore, .ref b_gives, .ref b_best, .ref b_holds, .ref b_refused, .ref b_sums, .ref b_image, .ref b_isKept])), (a_pad, .inl (cI, 48, .inl f_pad))] (QI D [(a_t, .inr (8, [.ref b_may, .ref b_voyage, .ref b_lucky, .ref b_worths, .ref b_ranks, .int x_t_signs, .ref a_pad, .int x_t_day, .int x_t_reason, .ref b_bears, .ref b_due, .ref b_borneBy, .ref b_gone, .ref b_sunk, .ref b_times, .int x_t_asked, .ref b_whoBore, .ref b_gives, .ref b_best, .ref b_holds, .ref b_refused, .ref b_sums, .ref b_image, .ref b_isKept])), (a_pad, .inl (cI, 48, .inl f_pad))] (fun (r : Int32) (_ : Unit) => r = res) (fun (u : Unit) => [(a_t, .inr (8, [.ref b_may, .ref b_voyage, .ref b_lucky, .ref b_worths, .ref b_ranks, .int x_t_signs, .ref a_pad, .int x_t_day, .int x_t_reason, .ref b_bears, .ref b_due, .ref b_borneBy, .ref b_gone, .ref b_sunk, .ref b_times, .int x_t_asked, .ref b_whoBore, .ref b_gives, .ref b_best, .ref b_holds, .ref b_refused, .ref b_sums, .ref b_image, .ref b_isKept])), (a_pad, .inl (cI, 48, .inl f_pad))])) 0 0 := by
  have h : ((m_X8_opens_4 f_pad x_t_signs 1000000 0 0) : Option Int32) = some res := h
  refine ct_entry (cc := cX8_opens) (nl := 3) (ret := (some .int)) (own := RX8) (lv0 := [(0, .ref a_t)]) (by decide) rfl rfl (Nat.le_of_ble_eq_true rfl) rfl ?_
  intro p e s m args below meth c A Q hA hQ hr hnm B
  have iX8 : ∀ w ∈ wsX80, w ∈ wsX8_opens := by decide +kernel
  have cut_4 : ∀ (fuel : Nat) (v1 : Int32) (v2 : Int32), m_X8_opens_4 f_pad x_t_signs fuel v1 v2 = some res → WW p l e (headSpec wsX8_opens ({ frames := 0, cells := 0, slots := 0, locals := 0 } : Room)).room s m args below meth c D A 3 0 0 Q [(a_t, .inr (8, [.ref b_may, .ref b_voyage, .ref b_lucky, .ref b_worths, .ref b_ranks, .int x_t_signs, .ref a_pad, .int x_t_day, .int x_t_reason, .ref b_bears, .ref b_due, .ref b_borneBy, .ref b_gone, .ref b_sunk, .ref b_times, .int x_t_asked, .ref b_whoBore, .ref b_gives, .ref b_best, .ref b_holds, .ref b_refused, .ref b_sums, .ref b_image, .ref b_isKept])), (a_pad, .inl (cI, 48, .inl f_pad))] [(0, .ref a_t), (1, .int v1), (2, .int v2)] [] 4 := by
    intro fuel_4
    induction fuel_4 with
    | zero => intro v1 v2 h; exact og_0 h
    | succ fuel_4 ih_4 =>
      have cut_29 : ∀ (v2 : Int32) (s0 : Int32) (s1 : Int32), m_X8_opens_29 (m_X8_opens_4 f_pad x_t_signs fuel_4) f_pad x_t_signs v2 s0 s1 = some res → WW p l e (headSpec wsX8_opens ({ frames := 0, cells := 0, slots := 0, locals := 0 } : Room)).room s m args below meth c D A 3 0 0 Q [(a_t, .inr (8, [.ref b_may, .ref b_voyage, .ref b_lucky, .ref b_worths, .ref b_ranks, .int x_t_signs, .ref a_pad, .int x_t_day, .int x_t_reason, .ref b_bears, .ref b_due, .ref b_borneBy, .ref b_gone, .ref b_sunk, .ref b_times, .int x_t_asked, .ref b_whoBore, .ref b_gives, .ref b_best, .ref b_holds, .ref b_refused, .ref b_sums, .ref b_image, .ref b_isKept])), (a_pad, .inl (cI, 48, .inl f_pad))] [(0, .ref a_t), (2, .int v2)] [.int s1, .int s0] 29 := by
        intro v2 s0 s1 h
        replace h : (ogl (s0 + s1) (fun (v1_30 : Int32) => ogl (v2 + 1) (fun (v2_31 : Int32) => ((m_X8_opens_4 f_pad x_t_signs fuel_4) v1_30 v2_31))) : Option Int32) = some res := h
        refine ww_iadd B dX8_opens_29 ?_
        refine ww_topi (fun v1_30 ev1_30 => ?_)
        replace h := og_l ev1_30 h
        refine ww_istore_n B dX8_opens_30 (lv' := [(1, .int v1_30), (0, .ref a_t), (2, .int v2)]) (by decide) rfl ?_
        obtain ⟨v2_31, ev2_31⟩ : ∃ y : Int32, y = (v2 + 1) := ⟨_, rfl⟩
        refine ww_iinc B dX8_opens_31 2 rfl (v := v2_31) (by rw [ev2_31]; rfl) (by decide) (lv' := [(2, .int v2_31), (1, .int v1_30), (0, .ref a_t)]) rfl ?_
        replace h := og_l ev2_31 h
        refine ww_goto B 4 dX8_opens_34 (by decide) ?_
        refine ww_lsel (lv' := [(0, .ref a_t), (1, .int v1_30), (2, .int v2_31)]) [2, 1, 0] rfl ?_
        exact ih_4 _ _ h
      intro v1 v2 h
      replace h : (if x_t_signs ≤ v2 then (some v1) else (ogi v2 48 (if (f_pad (Int32.toNatClampNeg v2)) = 63 then ((m_X8_opens_29 (m_X8_opens_4 f_pad x_t_signs fuel_4) f_pad x_t_signs v2 v1 1)) else ((m_X8_opens_29 (m_X8_opens_4 f_pad x_t_signs fuel_4) f_pad x_t_signs v2 v1 0)))) : Option Int32) = some res := h
      refine ww_iload_n B dX8_opens_4 2 rfl ?_
      refine ww_aload_n B dX8_opens_5 0 rfl ?_
      refine ww_get (ci := 8) (T := TX8) (C := RX8) (N := 24) B iX8 0 rfl rfl 5 (by decide) (by decide +kernel) rfl rfl dX8_opens_6 ?_
      refine ww_icmp_ge B 37 dX8_opens_9 (by decide) (fun c_9 => ?_) (fun c_9 => ?_)
      · replace h := og_t c_9 h
        refine ww_iload_n B dX8_opens_37 1 rfl ?_
        exact ww_iret B hA hQ hr dX8_opens_38 () [0, 1] rfl (by decide) (og_s h).symm
      · replace h := og_f c_9 h
        refine ww_iload_n B dX8_opens_12 1 rfl ?_
        refine ww_aload_n B dX8_opens_13 0 rfl ?_
        refine ww_get (ci := 8) (T := TX8) (C := RX8) (N := 24) B iX8 0 rfl rfl 6 (by decide) (by decide +kernel) rfl rfl dX8_opens_14 ?_
        refine ww_iload_n B dX8_opens_17 2 rfl ?_
        obtain ⟨i_18, h⟩ := og_i h
        refine ww_iald B 1 rfl i_18 dX8_opens_18 ?_
        refine ww_bipush B dX8_opens_19 (v := 63) (by decide) ?_
        refine ww_icmp_ne B 28 dX8_opens_21 (by decide) (fun c_21 => ?_) (fun c_21 => ?_)
        · replace h := og_f c_21 h
          refine ww_iconst B dX8_opens_28 (v := 0) (by decide) ?_
          refine ww_lsel (lv' := [(0, .ref a_t), (2, .int v2)]) [0, 2] rfl ?_
          exact cut_29 _ _ _ h
        · replace h := og_t c_21 h
          refine ww_iconst B dX8_opens_24 (v := 1) (by decide) ?_
          refine ww_goto B 29 dX8_opens_25 (by decide) ?_
          refine ww_lsel (lv' := [(0, .ref a_t), (2, .int v2)]) [0, 2] rfl ?_
          exact cut_29 _ _ _ h
  refine ww_iconst B dX8_opens_0 (v := 0) (by decide) ?_
  refine ww_istore_n B dX8_opens_1 (lv' := [(1, .int 0), (0, .ref a_t)]) (by decide) rfl ?_
  refine ww_iconst B dX8_opens_2 (v := 0) (by decide) ?_
  refine ww_istore_n B dX8_opens_3 (lv' := [(2, .int 0), (1, .int 0), (0, .ref a_t)]) (by decide) rfl ?_
  refine ww_lsel (lv' := [(0, .ref a_t), (1, .int 0), (2, .int 0)]) [2, 1, 0] rfl ?_
  exact cut_4 _ _ _ h
noncomputable def m_X8_codes_4b (k4 : Int32 → Int32 → Option Int32) (f_pad : (Nat → Int32)) (x_t_signs : Int32) (v1 : Int32) (v2 : Int32) : Option Int32 := ogb (m_X8_opens f_pad x_t_signs) (fun q_6 => if q_6 ≤ v2 then (some v1) else (ogl (v1 * 6) (fun (v1_16 : Int32) => ogl (v2 + 1) (fun (v2_17 : Int32) => (k4 v1_16 v2_17)))))
noncomputable def m_X8_codes_4 (f_pad : (Nat → Int32)) (x_t_signs : Int32) (fuel : Nat) : Int32 → Int32 → Option Int32 := Nat.rec (fun _ _ => none) (fun _ k4 => m_X8_codes_4b k4 f_pad x_t_signs) fuel
noncomputable def m_X8_codes (f_pad : (Nat → Int32)) (x_t_signs : Int32) : Option Int32 := (m_X8_codes_4 f_pad x_t_signs 1000000 1 0)
set_option maxHeartbeats 4000000 in
set_option maxRecDepth 100000 in
theorem c_X8_codes (l : Launch) (D : va_G) (cI cZ : ClassId) (a_t a_pad b_may b_voyage b_lucky b_worths b_ranks b_bears b_due b_borneBy b_gone b_sunk b_times b_whoBore b_gives b_best b_holds b_refused b_sums b_image b_isKept : Nat) (f_pad : (Nat → Int32)) (x_t_signs : Int32) (x_t_day : Int32) (x_t_reason : Int32) (x_t_asked : Int32) {res : Int32} (h : m_X8_codes f_pad x_t_signs = some res) : CT l yX8_codes wsX8_codes ({ frames := 1, cells := 0, slots := 0, locals := 22 } : Room) D cI cZ [.ref a_t] [(a_t, .inr (8, [.ref b_may, .ref b_voyage, .ref b_lucky, .ref b_worths, .ref b_ranks, .int x_t_signs, .ref a_pad, .int x_t_day, .int x_t_reason, .ref b_bears, .ref b_due, .ref b_borneBy, .ref b_gone, .ref b_sunk, .ref b_times, .int x_t_asked, .ref b_whoBore, .ref b_gives, .ref b_best, .ref b_holds, .ref b_refused, .ref b_sums, .ref b_image, .ref b_isKept])), (a_pad, .inl (cI, 48, .inl f_pad))] (QI D [(a_t, .inr (8, [.ref b_may, .ref b_voyage, .ref b_lucky, .ref b_worths, .ref b_ranks, .int x_t_signs, .ref a_pad, .int x_t_day, .int x_t_reason, .ref b_bears, .ref b_due, .ref b_borneBy, .ref b_gone, .ref b_sunk, .ref b_times, .int x_t_asked, .ref b_whoBore, .ref b_gives, .ref b_best, .ref b_holds, .ref b_refused, .ref b_sums, .ref b_image, .ref b_isKept])), (a_pad, .inl (cI, 48, .inl f_pad))] (fun (r : Int32) (_ : Unit) => r = res) (fun (u : Unit) => [(a_t, .inr (8, [.ref b_may, .ref b_voyage, .ref b_lucky, .ref b_worths, .ref b_ranks, .int x_t_signs, .ref a_pad, .int x_t_day, .int x_t_reason, .ref b_bears, .ref b_due, .ref b_borneBy, .ref b_gone, .ref b_sunk, .ref b_times, .int x_t_asked, .ref b_whoBore, .ref b_gives, .ref b_best, .ref b_holds, .ref b_refused, .ref b_sums, .ref b_image, .ref b_isKept])), (a_pad, .inl (cI, 48, .inl f_pad))])) 0 0 := by
  have h : ((m_X8_codes_4 f_pad x_t_signs 1000000 1 0) : Option Int32) = some res := h
  refine ct_entry (cc := cX8_codes) (nl := 3) (ret := (some .int)) (own := RX8) (lv0 := [(0, .ref a_t)]) (by decide) rfl rfl (Nat.le_of_ble_eq_true rfl) rfl ?_
  intro p e s m args below meth c A Q hA hQ hr hnm B
  have cut_4 : ∀ (fuel : Nat) (v1 : Int32) (v2 : Int32), m_X8_codes_4 f_pad x_t_signs fuel v1 v2 = some res → WW p l e (headSpec wsX8_codes ({ frames := 1, cells := 0, slots := 0, locals := 22 } : Room)).room s m args below meth c D A 3 0 0 Q [(a_t, .inr (8, [.ref b_may, .ref b_voyage, .ref b_lucky, .ref b_worths, .ref b_ranks, .int x_t_signs, .ref a_pad, .int x_t_day, .int x_t_reason, .ref b_bears, .ref b_due, .ref b_borneBy, .ref b_gone, .ref b_sunk, .ref b_times, .int x_t_asked, .ref b_whoBore, .ref b_gives, .ref b_best, .ref b_holds, .ref b_refused, .ref b_sums, .ref b_image, .ref b_isKept])), (a_pad, .inl (cI, 48, .inl f_pad))] [(0, .ref a_t), (1, .int v1), (2, .int v2)] [] 4 := by
    intro fuel_4
    induction fuel_4 with
    | zero => intro v1 v2 h; exact og_0 h
    | succ fuel_4 ih_4 =>
      intro v1 v2 h
      replace h : (ogb (m_X8_opens f_pad x_t_signs) (fun q_6 => if q_6 ≤ v2 then (some v1) else (ogl (v1 * 6) (fun (v1_16 : Int32) => ogl (v2 + 1) (fun (v2_17 : Int32) => ((m_X8_codes_4 f_pad x_t_signs fuel_4) v1_16 v2_17))))) : Option Int32) = some res := h
      refine ww_iload_n B dX8_codes_4 2 rfl ?_
      refine ww_aload_n B dX8_codes_5 0 rfl ?_
      obtain ⟨q_6, hq_6, h⟩ := og_b h
      refine ww_ci0 B (k' := 0) (n' := 0) rfl rfl [0, 1] [] (wr := []) (st := [.int v2]) rfl rfl (by decide) (rr_V B (c_X8_opens l D cI cZ a_t a_pad b_may b_voyage b_lucky b_worths b_ranks b_bears b_due b_borneBy b_gone b_sunk b_times b_whoBore b_gives b_best b_holds b_refused b_sums b_image b_isKept f_pad x_t_signs x_t_day x_t_reason x_t_asked hq_6) gX8_codes_X8_opens rfl rfl rfl (N := 0) rfl (by decide +kernel) ⟨Nat.le_of_ble_eq_true rfl, Nat.le_of_ble_eq_true rfl⟩ rfl dX8_codes_6 0 rfl rfl (Nat.le_of_ble_eq_true rfl) ⟨Nat.le_of_ble_eq_true rfl, Nat.le_of_ble_eq_true rfl⟩) (ws' := [(a_t, .inr (8, [.ref b_may, .ref b_voyage, .ref b_lucky, .ref b_worths, .ref b_ranks, .int x_t_signs, .ref a_pad, .int x_t_day, .int x_t_reason, .ref b_bears, .ref b_due, .ref b_borneBy, .ref b_gone, .ref b_sunk, .ref b_times, .int x_t_asked, .ref b_whoBore, .ref b_gives, .ref b_best, .ref b_holds, .ref b_refused, .ref b_sums, .ref b_image, .ref b_isKept])), (a_pad, .inl (cI, 48, .inl f_pad))]) rfl ?_
      refine ww_icmp_ge B 23 dX8_codes_9 (by decide) (fun c_9 => ?_) (fun c_9 => ?_)
      · replace h := og_t c_9 h
        refine ww_iload_n B dX8_codes_23 1 rfl ?_
        exact ww_iret B hA hQ hr dX8_codes_24 () [0, 1] rfl (by decide) (og_s h).symm
      · replace h := og_f c_9 h
        refine ww_iload_n B dX8_codes_12 1 rfl ?_
        refine ww_bipush B dX8_codes_13 (v := 6) (by decide) ?_
        refine ww_imul B dX8_codes_15 ?_
        refine ww_topi (fun v1_16 ev1_16 => ?_)
        replace h := og_l ev1_16 h
        refine ww_istore_n B dX8_codes_16 (lv' := [(1, .int v1_16), (0, .ref a_t), (2, .int v2)]) (by decide) rfl ?_
        obtain ⟨v2_17, ev2_17⟩ : ∃ y : Int32, y = (v2 + 1) := ⟨_, rfl⟩
        refine ww_iinc B dX8_codes_17 2 rfl (v := v2_17) (by rw [ev2_17]; rfl) (by decide) (lv' := [(2, .int v2_17), (1, .int v1_16), (0, .ref a_t)]) rfl ?_
        replace h := og_l ev2_17 h
        refine ww_goto B 4 dX8_codes_20 (by decide) ?_
        refine ww_lsel (lv' := [(0, .ref a_t), (1, .int v1_16), (2, .int v2_17)]) [2, 1, 0] rfl ?_
        exact ih_4 _ _ h
  refine ww_iconst B dX8_codes_0 (v := 1) (by decide) ?_
  refine ww_istore_n B dX8_codes_1 (lv' := [(1, .int 1), (0, .ref a_t)]) (by decide) rfl ?_
  refine ww_iconst B dX8_codes_2 (v := 0) (by decide) ?_
  refine ww_istore_n B dX8_codes_3 (lv' := [(2, .int 0), (1, .int 1), (0, .ref a_t)]) (by decide) rfl ?_
  refine ww_lsel (lv' := [(0, .ref a_t), (1, .int 1), (2, .int 0)]) [2, 1, 0] rfl ?_
  exact cut_4 _ _ _ h
noncomputable def m_X8_faultOf_156 (k6 : Int32 → Int32 → Int32 → Option Int32) (f_pad : (Nat → Int32)) (x_t_signs : Int32) (v1 : Int32) (v2 : Int32) (v3 : Int32) (v5 : Int32) : Option Int32 := if v5 = 0 then (some v3) else (ogl (v3 + 1) (fun (v3_163 : Int32) => (k6 v1 v2 v3_163)))
noncomputable def m_X8_faultOf_155 (k6 : Int32 → Int32 → Int32 → Option Int32) (f_pad : (Nat → Int32)) (x_t_signs : Int32) (v2 : Int32) (v3 : Int32) (v5 : Int32) (s0 : Int32) : Option Int32 := (m_X8_faultOf_156 k6 f_pad x_t_signs s0 v2 v3 v5)
noncomputable def m_X8_faultOf_109 (k6 : Int32 → Int32 → Int32 → Option Int32) (f_pad : (Nat → Int32)) (x_t_signs : Int32) (v2 : Int32) (v3 : Int32) (v5 : Int32) (s0 : Int32) : Option Int32 := (m_X8_faultOf_156 k6 f_pad x_t_signs s0 v2 v3 v5)
noncomputable def m_X8_faultOf_84 (k6 : Int32 → Int32 → Int32 → Option Int32) (f_pad : (Nat → Int32)) (x_t_signs : Int32) (v2 : Int32) (v3 : Int32) (v4 : Int32) (s0 : Int32) : Option Int32 := if v4 = 46 then ((m_X8_faultOf_109 k6 f_pad x_t_signs v2 v3 s0 0)) else (if v4 = 33 then ((m_X8_faultOf_109 k6 f_pad x_t_signs v2 v3 s0 3)) else ((m_X8_faultOf_109 k6 f_pad x_t_signs v2 v3 s0 1)))
noncomputable def m_X8_faultOf_79 (k6 : Int32 → Int32 → Int32 → Option Int32) (f_pad : (Nat → Int32)) (x_t_signs : Int32) (v2 : Int32) (v3 : Int32) (v4 : Int32) : Option Int32 := (m_X8_faultOf_84 k6 f_pad x_t_signs v2 v3 v4 1)
noncomputable def m_X8_faultOf_83 (k6 : Int32 → Int32 → Int32 → Option Int32) (f_pad : (Nat → Int32)) (x_t_signs : Int32) (v2 : Int32) (v3 : Int32) (v4 : Int32) : Option Int32 := (m_X8_faultOf_84 k6 f_pad x_t_signs v2 v3 v4 0)
noncomputable def m_X8_faultOf_39 (k6 : Int32 → Int32 → Int32 → Option Int32) (f_pad : (Nat → Int32)) (x_t_signs : Int32) (v3 : Int32) (v4 : Int32) (s0 : Int32) (s1 : Int32) : Option Int32 := ogl (s0 + s1) (fun (v2_40 : Int32) => if v4 = 46 then ((m_X8_faultOf_79 k6 f_pad x_t_signs v2_40 v3 v4)) else (if v4 = 33 then ((m_X8_faultOf_79 k6 f_pad x_t_signs v2_40 v3 v4)) else (ogb (m_X8_in v4 65 70) (fun q_61 => if q_61 = 0 then (if v4 = 63 then (if 4 < v2_40 then ((m_X8_faultOf_83 k6 f_pad x_t_signs v2_40 v3 v4)) else ((m_X8_faultOf_79 k6 f_pad x_t_signs v2_40 v3 v4))) else ((m_X8_faultOf_83 k6 f_pad x_t_signs v2_40 v3 v4))) else ((m_X8_faultOf_79 k6 f_pad x_t_signs v2_40 v3 v4))))))
noncomputable def m_X8_faultOf_6b (k6 : Int32 → Int32 → Int32 → Option Int32) (f_pad : (Nat → Int32)) (x_t_signs : Int32) (v1 : Int32) (v2 : Int32) (v3 : Int32) : Option Int32 := if x_t_signs ≤ v3 then (if v1 = 0 then (some (-6)) else (some x_t_signs)) else (ogi v3 48 (ogl (f_pad (Int32.toNatClampNeg v3)) (fun (v4_20 : Int32) => if v1 = 0 then (if v4_20 = 63 then ((m_X8_faultOf_39 k6 f_pad x_t_signs v3 v4_20 v2 1)) else ((m_X8_faultOf_39 k6 f_pad x_t_signs v3 v4_20 v2 0))) else (if v1 = 2 then (ogb (m_X8_in v4_20 49 57) (fun q_124 => (m_X8_faultOf_156 k6 f_pad x_t_signs 0 v2 v3 q_124))) else (ogb (m_X8_in v4_20 97 101) (fun q_140 => if v1 = 1 then ((m_X8_faultOf_155 k6 f_pad x_t_signs v2 v3 q_140 2)) else ((m_X8_faultOf_155 k6 f_pad x_t_signs v2 v3 q_140 0))))))))
noncomputable def m_X8_faultOf_6 (f_pad : (Nat → Int32)) (x_t_signs : Int32) (fuel : Nat) : Int32 → Int32 → Int32 → Option Int32 := Nat.rec (fun _ _ _ => none) (fun _ k6 => m_X8_faultOf_6b k6 f_pad x_t_signs) fuel
noncomputable def m_X8_faultOf (f_pad : (Nat → Int32)) (x_t_signs : Int32) : Option Int32 := (m_X8_faultOf_6 f_pad x_t_signs 1000000 0 0 0)
set_option maxHeartbeats 4000000 in
set_option maxRecDepth 100000 in
theorem c_X8_faultOf (l : Launch) (D : va_G) (cI cZ : ClassId) (a_t a_pad b_may b_voyage b_lucky b_worths b_ranks b_bears b_due b_borneBy b_gone b_sunk b_times b_whoBore b_gives b_best b_holds b_refused b_sums b_image b_isKept : Nat) (f_pad : (Nat → Int32)) (x_t_signs : Int32) (x_t_day : Int32) (x_t_reason : Int32) (x_t_asked : Int32) {res : Int32} (h : m_X8_faultOf f_pad x_t_signs = some res) : CT l yX8_faultOf wsX8_faultOf ({ frames := 1, cells := 0, slots := 0, locals := 22 } : Room) D cI cZ [.ref a_t] [(a_t, .inr (8, [.ref b_may, .ref b_voyage, .ref b_lucky, .ref b_worths, .ref b_ranks, .int x_t_signs, .ref a_pad, .int x_t_day, .int x_t_reason, .ref b_bears, .ref b_due, .ref b_borneBy, .ref b_gone, .ref b_sunk, .ref b_times, .int x_t_asked, .ref b_whoBore, .ref b_gives, .ref b_best, .ref b_holds, .ref b_refused, .ref b_sums, .ref b_image, .ref b_isKept])), (a_pad, .inl (cI, 48, .inl f_pad))] (QI D [(a_t, .inr (8, [.ref b_may, .ref b_voyage, .ref b_lucky, .ref b_worths, .ref b_ranks, .int x_t_signs, .ref a_pad, .int x_t_day, .int x_t_reason, .ref b_bears, .ref b_due, .ref b_borneBy, .ref b_gone, .ref b_sunk, .ref b_times, .int x_t_asked, .ref b_whoBore, .ref b_gives, .ref b_best, .ref b_holds, .ref b_refused, .ref b_sums, .ref b_image, .ref b_isKept])), (a_pad, .inl (cI, 48, .inl f_pad))] (fun (r : Int32) (_ : Unit) => r = res) (fun (u : Unit) => [(a_t, .inr (8, [.ref b_may, .ref b_voyage, .ref b_lucky, .ref b_worths, .ref b_ranks, .int x_t_signs, .ref a_pad, .int x_t_day, .int x_t_reason, .ref b_bears, .ref b_due, .ref b_borneBy, .ref b_gone, .ref b_sunk, .ref b_times, .int x_t_asked, .ref b_whoBore, .ref b_gives, .ref b_best, .ref b_holds, .ref b_refused, .ref b_sums, .ref b_image, .ref b_isKept])), (a_pad, .inl (cI, 48, .inl f_pad))])) 0 0 := by
  have h : ((m_X8_faultOf_6 f_pad x_t_signs 1000000 0 0 0) : Option Int32) = some res := h
  refine ct_entry (cc := cX8_faultOf) (nl := 6) (ret := (some .int)) (own := RX8) (lv0 := [(0, .ref a_t)]) (by decide) rfl rfl (Nat.le_of_ble_eq_true rfl) rfl ?_
  intro p e s m args below meth c A Q hA hQ hr hnm B
  have iX8 : ∀ w ∈ wsX80, w ∈ wsX8_faultOf := by decide +kernel
  have cut_6 : ∀ (fuel : Nat) (v1 : Int32) (v2 : Int32) (v3 : Int32), m_X8_faultOf_6 f_pad x_t_signs fuel v1 v2 v3 = some res → WW p l e (headSpec wsX8_faultOf ({ frames := 1, cells := 0, slots := 0, locals := 22 } : Room)).room s m args below meth c D A 6 0 0 Q [(a_t, .inr (8, [.ref b_may, .ref b_voyage, .ref b_lucky, .ref b_worths, .ref b_ranks, .int x_t_signs, .ref a_pad, .int x_t_day, .int x_t_reason, .ref b_bears, .ref b_due, .ref b_borneBy, .ref b_gone, .ref b_sunk, .ref b_times, .int x_t_asked, .ref b_whoBore, .ref b_gives, .ref b_best, .ref b_holds, .ref b_refused, .ref b_sums, .ref b_image, .ref b_isKept])), (a_pad, .inl (cI, 48, .inl f_pad))] [(0, .ref a_t), (1, .int v1), (2, .int v2), (3, .int v3)] [] 6 := by
    intro fuel_6
    induction fuel_6 with
    | zero => intro v1 v2 v3 h; exact og_0 h
    | succ fuel_6 ih_6 =>
      have cut_156 : ∀ (v1 : Int32) (v2 : Int32) (v3 : Int32) (v5 : Int32), m_X8_faultOf_156 (m_X8_faultOf_6 f_pad x_t_signs fuel_6) f_pad x_t_signs v1 v2 v3 v5 = some res → WW p l e (headSpec wsX8_faultOf ({ frames := 1, cells := 0, slots := 0, locals := 22 } : Room)).room s m args below meth c D A 6 0 0 Q [(a_t, .inr (8, [.ref b_may, .ref b_voyage, .ref b_lucky, .ref b_worths, .ref b_ranks, .int x_t_signs, .ref a_pad, .int x_t_day, .int x_t_reason, .ref b_bears, .ref b_due, .ref b_borneBy, .ref b_gone, .ref b_sunk, .ref b_times, .int x_t_asked, .ref b_whoBore, .ref b_gives, .ref b_best, .ref b_holds, .ref b_refused, .ref b_sums, .ref b_image, .ref b_isKept])), (a_pad, .inl (cI, 48, .inl f_pad))] [(0, .ref a_t), (1, .int v1), (2, .int v2), (3, .int v3), (5, .int v5)] [] 156 := by
        intro v1 v2 v3 v5 h
        replace h : (if v5 = 0 then (some v3) else (ogl (v3 + 1) (fun (v3_163 : Int32) => ((m_X8_faultOf_6 f_pad x_t_signs fuel_6) v1 v2 v3_163))) : Option Int32) = some res := h
        refine ww_iload B dX8_faultOf_156 4 rfl ?_
        refine ww_if_ne B 163 dX8_faultOf_158 (by decide) (fun c_158 => ?_) (fun c_158 => ?_)
        · replace h := og_f c_158 h
          obtain ⟨v3_163, ev3_163⟩ : ∃ y : Int32, y = (v3 + 1) := ⟨_, rfl⟩
          refine ww_iinc B dX8_faultOf_163 3 rfl (v := v3_163) (by rw [ev3_163]; rfl) (by decide) (lv' := [(3, .int v3_163), (0, .ref a_t), (1, .int v1), (2, .int v2), (5, .int v5)]) rfl ?_
          replace h := og_l ev3_163 h
          refine ww_goto B 6 dX8_faultOf_166 (by decide) ?_
          refine ww_lsel (lv' := [(0, .ref a_t), (1, .int v1), (2, .int v2), (3, .int v3_163)]) [1, 2, 3, 0] rfl ?_
          exact ih_6 _ _ _ h
        · replace h := og_t c_158 h
          refine ww_iload_n B dX8_faultOf_161 3 rfl ?_
          exact ww_iret B hA hQ hr dX8_faultOf_162 () [0, 1] rfl (by decide) (og_s h).symm
      have cut_155 : ∀ (v2 : Int32) (v3 : Int32) (v5 : Int32) (s0 : Int32), m_X8_faultOf_155 (m_X8_faultOf_6 f_pad x_t_signs fuel_6) f_pad x_t_signs v2 v3 v5 s0 = some res → WW p l e (headSpec wsX8_faultOf ({ frames := 1, cells := 0, slots := 0, locals := 22 } : Room)).room s m args below meth c D A 6 0 0 Q [(a_t, .inr (8, [.ref b_may, .ref b_voyage, .ref b_lucky, .ref b_worths, .ref b_ranks, .int x_t_signs, .ref a_pad, .int x_t_day, .int x_t_reason, .ref b_bears, .ref b_due, .ref b_borneBy, .ref b_gone, .ref b_sunk, .ref b_times, .int x_t_asked, .ref b_whoBore, .ref b_gives, .ref b_best, .ref b_holds, .ref b_refused, .ref b_sums, .ref b_image, .ref b_isKept])), (a_pad, .inl (cI, 48, .inl f_pad))] [(0, .ref a_t), (2, .int v2), (3, .int v3), (5, .int v5)] [.int s0] 155 := by
        intro v2 v3 v5 s0 h
        replace h : ((m_X8_faultOf_156 (m_X8_faultOf_6 f_pad x_t_signs fuel_6) f_pad x_t_signs s0 v2 v3 v5) : Option Int32) = some res := h
        refine ww_istore_n B dX8_faultOf_155 (lv' := [(1, .int s0), (0, .ref a_t), (2, .int v2), (3, .int v3), (5, .int v5)]) (by decide) rfl ?_
        refine ww_lsel (lv' := [(0, .ref a_t), (1, .int s0), (2, .int v2), (3, .int v3), (5, .int v5)]) [1, 0, 2, 3, 4] rfl ?_
        exact cut_156 _ _ _ _ h
      have cut_109 : ∀ (v2 : Int32) (v3 : Int32) (v5 : Int32) (s0 : Int32), m_X8_faultOf_109 (m_X8_faultOf_6 f_pad x_t_signs fuel_6) f_pad x_t_signs v2 v3 v5 s0 = some res → WW p l e (headSpec wsX8_faultOf ({ frames := 1, cells := 0, slots := 0, locals := 22 } : Room)).room s m args below meth c D A 6 0 0 Q [(a_t, .inr (8, [.ref b_may, .ref b_voyage, .ref b_lucky, .ref b_worths, .ref b_ranks, .int x_t_signs, .ref a_pad, .int x_t_day, .int x_t_reason, .ref b_bears, .ref b_due, .ref b_borneBy, .ref b_gone, .ref b_sunk, .ref b_times, .int x_t_asked, .ref b_whoBore, .ref b_gives, .ref b_best, .ref b_holds, .ref b_refused, .ref b_sums, .ref b_image, .ref b_isKept])), (a_pad, .inl (cI, 48, .inl f_pad))] [(0, .ref a_t), (2, .int v2), (3, .int v3), (5, .int v5)] [.int s0] 109 := by
        intro v2 v3 v5 s0 h
        replace h : ((m_X8_faultOf_156 (m_X8_faultOf_6 f_pad x_t_signs fuel_6) f_pad x_t_signs s0 v2 v3 v5) : Option Int32) = some res := h
        refine ww_istore_n B dX8_faultOf_109 (lv' := [(1, .int s0), (0, .ref a_t), (2, .int v2), (3, .int v3), (5, .int v5)]) (by decide) rfl ?_
        refine ww_goto B 156 dX8_faultOf_110 (by decide) ?_
        refine ww_lsel (lv' := [(0, .ref a_t), (1, .int s0), (2, .int v2), (3, .int v3), (5, .int v5)]) [1, 0, 2, 3, 4] rfl ?_
        exact cut_156 _ _ _ _ h
      have cut_84 : ∀ (v2 : Int32) (v3 : Int32) (v4 : Int32) (s0 : Int32), m_X8_faultOf_84 (m_X8_faultOf_6 f_pad x_t_signs fuel_6) f_pad x_t_signs v2 v3 v4 s0 = some res → WW p l e (headSpec wsX8_faultOf ({ frames := 1, cells := 0, slots := 0, locals := 22 } : Room)).room s m args below meth c D A 6 0 0 Q [(a_t, .inr (8, [.ref b_may, .ref b_voyage, .ref b_lucky, .ref b_worths, .ref b_ranks, .int x_t_signs, .ref a_pad, .int x_t_day, .int x_t_reason, .ref b_bears, .ref b_due, .ref b_borneBy, .ref b_gone, .ref b_sunk, .ref b_times, .int x_t_asked, .ref b_whoBore, .ref b_gives, .ref b_best, .ref b_holds, .ref b_refused, .ref b_sums, .ref b_image, .ref b_isKept])), (a_pad, .inl (cI, 48, .inl f_pad))] [(0, .ref a_t), (2, .int v2), (3, .int v3), (4, .int v4)] [.int s0] 84 := by
        intro v2 v3 v4 s0 h
        replace h : (if v4 = 46 then ((m_X8_faultOf_109 (m_X8_faultOf_6 f_pad x_t_signs fuel_6) f_pad x_t_signs v2 v3 s0 0)) else (if v4 = 33 then ((m_X8_faultOf_109 (m_X8_faultOf_6 f_pad x_t_signs fuel_6) f_pad x_t_signs v2 v3 s0 3)) else ((m_X8_faultOf_109 (m_X8_faultOf_6 f_pad x_t_signs fuel_6) f_pad x_t_signs v2 v3 s0 1))) : Option Int32) = some res := h
        refine ww_istore B dX8_faultOf_84 (lv' := [(5, .int s0), (0, .ref a_t), (2, .int v2), (3, .int v3), (4, .int v4)]) (by decide) rfl ?_
        refine ww_iload B dX8_faultOf_86 4 rfl ?_
        refine ww_bipush B dX8_faultOf_88 (v := 46) (by decide) ?_
        refine ww_icmp_ne B 97 dX8_faultOf_90 (by decide) (fun c_90 => ?_) (fun c_90 => ?_)
        · replace h := og_f c_90 h
          refine ww_iload B dX8_faultOf_97 4 rfl ?_
          refine ww_bipush B dX8_faultOf_99 (v := 33) (by decide) ?_
          refine ww_icmp_ne B 108 dX8_faultOf_101 (by decide) (fun c_101 => ?_) (fun c_101 => ?_)
          · replace h := og_f c_101 h
            refine ww_iconst B dX8_faultOf_108 (v := 1) (by decide) ?_
            refine ww_lsel (lv' := [(0, .ref a_t), (2, .int v2), (3, .int v3), (5, .int s0)]) [1, 2, 3, 0] rfl ?_
            exact cut_109 _ _ _ _ h
          · replace h := og_t c_101 h
            refine ww_iconst B dX8_faultOf_104 (v := 3) (by decide) ?_
            refine ww_goto B 109 dX8_faultOf_105 (by decide) ?_
            refine ww_lsel (lv' := [(0, .ref a_t), (2, .int v2), (3, .int v3), (5, .int s0)]) [1, 2, 3, 0] rfl ?_
            exact cut_109 _ _ _ _ h
        · replace h := og_t c_90 h
          refine ww_iconst B dX8_faultOf_93 (v := 0) (by decide) ?_
          refine ww_goto B 109 dX8_faultOf_94 (by decide) ?_
          refine ww_lsel (lv' := [(0, .ref a_t), (2, .int v2), (3, .int v3), (5, .int s0)]) [1, 2, 3, 0] rfl ?_
          exact cut_109 _ _ _ _ h
      have cut_79 : ∀ (v2 : Int32) (v3 : Int32) (v4 : Int32), m_X8_faultOf_79 (m_X8_faultOf_6 f_pad x_t_signs fuel_6) f_pad x_t_signs v2 v3 v4 = some res → WW p l e (headSpec wsX8_faultOf ({ frames := 1, cells := 0, slots := 0, locals := 22 } : Room)).room s m args below meth c D A 6 0 0 Q [(a_t, .inr (8, [.ref b_may, .ref b_voyage, .ref b_lucky, .ref b_worths, .ref b_ranks, .int x_t_signs, .ref a_pad, .int x_t_day, .int x_t_reason, .ref b_bears, .ref b_due, .ref b_borneBy, .ref b_gone, .ref b_sunk, .ref b_times, .int x_t_asked, .ref b_whoBore, .ref b_gives, .ref b_best, .ref b_holds, .ref b_refused, .ref b_sums, .ref b_image, .ref b_isKept])), (a_pad, .inl (cI, 48, .inl f_pad))] [(0, .ref a_t), (2, .int v2), (3, .int v3), (4, .int v4)] [] 79 := by
        intro v2 v3 v4 h
        replace h : ((m_X8_faultOf_84 (m_X8_faultOf_6 f_pad x_t_signs fuel_6) f_pad x_t_signs v2 v3 v4 1) : Option Int32) = some res := h
        refine ww_iconst B dX8_faultOf_79 (v := 1) (by decide) ?_
        refine ww_goto B 84 dX8_faultOf_80 (by decide) ?_
        exact cut_84 _ _ _ _ h
      have cut_83 : ∀ (v2 : Int32) (v3 : Int32) (v4 : Int32), m_X8_faultOf_83 (m_X8_faultOf_6 f_pad x_t_signs fuel_6) f_pad x_t_signs v2 v3 v4 = some res → WW p l e (headSpec wsX8_faultOf ({ frames := 1, cells := 0, slots := 0, locals := 22 } : Room)).room s m args below meth c D A 6 0 0 Q [(a_t, .inr (8, [.ref b_may, .ref b_voyage, .ref b_lucky, .ref b_worths, .ref b_ranks, .int x_t_signs, .ref a_pad, .int x_t_day, .int x_t_reason, .ref b_bears, .ref b_due, .ref b_borneBy, .ref b_gone, .ref b_sunk, .ref b_times, .int x_t_asked, .ref b_whoBore, .ref b_gives, .ref b_best, .ref b_holds, .ref b_refused, .ref b_sums, .ref b_image, .ref b_isKept])), (a_pad, .inl (cI, 48, .inl f_pad))] [(0, .ref a_t), (2, .int v2), (3, .int v3), (4, .int v4)] [] 83 := by
        intro v2 v3 v4 h
        replace h : ((m_X8_faultOf_84 (m_X8_faultOf_6 f_pad x_t_signs fuel_6) f_pad x_t_signs v2 v3 v4 0) : Option Int32) = some res := h
        refine ww_iconst B dX8_faultOf_83 (v := 0) (by decide) ?_
        exact cut_84 _ _ _ _ h
      have cut_39 : ∀ (v3 : Int32) (v4 : Int32) (s0 : Int32) (s1 : Int32), m_X8_faultOf_39 (m_X8_faultOf_6 f_pad x_t_signs fuel_6) f_pad x_t_signs v3 v4 s0 s1 = some res → WW p l e (headSpec wsX8_faultOf ({ frames := 1, cells := 0, slots := 0, locals := 22 } : Room)).room s m args below meth c D A 6 0 0 Q [(a_t, .inr (8, [.ref b_may, .ref b_voyage, .ref b_lucky, .ref b_worths, .ref b_ranks, .int x_t_signs, .ref a_pad, .int x_t_day, .int x_t_reason, .ref b_bears, .ref b_due, .ref b_borneBy, .ref b_gone, .ref b_sunk, .ref b_times, .int x_t_asked, .ref b_whoBore, .ref b_gives, .ref b_best, .ref b_holds, .ref b_refused, .ref b_sums, .ref b_image, .ref b_isKept])), (a_pad, .inl (cI, 48, .inl f_pad))] [(0, .ref a_t), (3, .int v3), (4, .int v4)] [.int s1, .int s0] 39 := by
        intro v3 v4 s0 s1 h
        replace h : (ogl (s0 + s1) (fun (v2_40 : Int32) => if v4 = 46 then ((m_X8_faultOf_79 (m_X8_faultOf_6 f_pad x_t_signs fuel_6) f_pad x_t_signs v2_40 v3 v4)) else (if v4 = 33 then ((m_X8_faultOf_79 (m_X8_faultOf_6 f_pad x_t_signs fuel_6) f_pad x_t_signs v2_40 v3 v4)) else (ogb (m_X8_in v4 65 70) (fun q_61 => if q_61 = 0 then (if v4 = 63 then (if 4 < v2_40 then ((m_X8_faultOf_83 (m_X8_faultOf_6 f_pad x_t_signs fuel_6) f_pad x_t_signs v2_40 v3 v4)) else ((m_X8_faultOf_79 (m_X8_faultOf_6 f_pad x_t_signs fuel_6) f_pad x_t_signs v2_40 v3 v4))) else ((m_X8_faultOf_83 (m_X8_faultOf_6 f_pad x_t_signs fuel_6) f_pad x_t_signs v2_40 v3 v4))) else ((m_X8_faultOf_79 (m_X8_faultOf_6 f_pad x_t_signs fuel_6) f_pad x_t_signs v2_40 v3 v4)))))) : Option Int32) = some res := h
        refine ww_iadd B dX8_faultOf_39 ?_
        refine ww_topi (fun v2_40 ev2_40 => ?_)
        replace h := og_l ev2_40 h
        refine ww_istore_n B dX8_faultOf_40 (lv' := [(2, .int v2_40), (0, .ref a_t), (3, .int v3), (4, .int v4)]) (by decide) rfl ?_
        refine ww_iload B dX8_faultOf_41 3 rfl ?_
        refine ww_bipush B dX8_faultOf_43 (v := 46) (by decide) ?_
        refine ww_icmp_eq B 79 dX8_faultOf_45 (by decide) (fun c_45 => ?_) (fun c_45 => ?_)
        · replace h := og_t c_45 h
          refine ww_lsel (lv' := [(0, .ref a_t), (2, .int v2_40), (3, .int v3), (4, .int v4)]) [1, 0, 2, 3] rfl ?_
          exact cut_79 _ _ _ h
        · replace h := og_f c_45 h
          refine ww_iload B dX8_faultOf_48 3 rfl ?_
          refine ww_bipush B dX8_faultOf_50 (v := 33) (by decide) ?_
          refine ww_icmp_eq B 79 dX8_faultOf_52 (by decide) (fun c_52 => ?_) (fun c_52 => ?_)
          · replace h := og_t c_52 h
            refine ww_lsel (lv' := [(0, .ref a_t), (2, .int v2_40), (3, .int v3), (4, .int v4)]) [1, 0, 2, 3] rfl ?_
            exact cut_79 _ _ _ h
          · replace h := og_f c_52 h
            refine ww_iload B dX8_faultOf_55 3 rfl ?_
            refine ww_bipush B dX8_faultOf_57 (v := 65) (by decide) ?_
            refine ww_bipush B dX8_faultOf_59 (v := 70) (by decide) ?_
            obtain ⟨q_61, hq_61, h⟩ := og_b h
            refine ww_ci0 B (k' := 0) (n' := 0) rfl rfl [] [0, 1] (wr := [(a_t, .inr (8, [.ref b_may, .ref b_voyage, .ref b_lucky, .ref b_worths, .ref b_ranks, .int x_t_signs, .ref a_pad, .int x_t_day, .int x_t_reason, .ref b_bears, .ref b_due, .ref b_borneBy, .ref b_gone, .ref b_sunk, .ref b_times, .int x_t_asked, .ref b_whoBore, .ref b_gives, .ref b_best, .ref b_holds, .ref b_refused, .ref b_sums, .ref b_image, .ref b_isKept])), (a_pad, .inl (cI, 48, .inl f_pad))]) (st := []) rfl rfl (by decide) (rr_S B (c_X8_in l D cI cZ v4 65 70 hq_61) gX8_faultOf_X8_in rfl rfl rfl (N := 3) rfl (by decide +kernel) ⟨Nat.le_of_ble_eq_true rfl, Nat.le_of_ble_eq_true rfl⟩ rfl dX8_faultOf_61 (Nat.le_of_ble_eq_true rfl) ⟨Nat.le_of_ble_eq_true rfl, Nat.le_of_ble_eq_true rfl⟩) (ws' := [(a_t, .inr (8, [.ref b_may, .ref b_voyage, .ref b_lucky, .ref b_worths, .ref b_ranks, .int x_t_signs, .ref a_pad, .int x_t_day, .int x_t_reason, .ref b_bears, .ref b_due, .ref b_borneBy, .ref b_gone, .ref b_sunk, .ref b_times, .int x_t_asked, .ref b_whoBore, .ref b_gives, .ref b_best, .ref b_holds, .ref b_refused, .ref b_sums, .ref b_image, .ref b_isKept])), (a_pad, .inl (cI, 48, .inl f_pad))]) rfl ?_
            refine ww_if_ne B 79 dX8_faultOf_64 (by decide) (fun c_64 => ?_) (fun c_64 => ?_)
            · replace h := og_f c_64 h
              refine ww_lsel (lv' := [(0, .ref a_t), (2, .int v2_40), (3, .int v3), (4, .int v4)]) [1, 0, 2, 3] rfl ?_
              exact cut_79 _ _ _ h
            · replace h := og_t c_64 h
              refine ww_iload B dX8_faultOf_67 3 rfl ?_
              refine ww_bipush B dX8_faultOf_69 (v := 63) (by decide) ?_
              refine ww_icmp_ne B 83 dX8_faultOf_71 (by decide) (fun c_71 => ?_) (fun c_71 => ?_)
              · replace h := og_f c_71 h
                refine ww_lsel (lv' := [(0, .ref a_t), (2, .int v2_40), (3, .int v3), (4, .int v4)]) [1, 0, 2, 3] rfl ?_
                exact cut_83 _ _ _ h
              · replace h := og_t c_71 h
                refine ww_iload_n B dX8_faultOf_74 0 rfl ?_
                refine ww_iconst B dX8_faultOf_75 (v := 4) (by decide) ?_
                refine ww_icmp_gt B 83 dX8_faultOf_76 (by decide) (fun c_76 => ?_) (fun c_76 => ?_)
                · replace h := og_t c_76 h
                  refine ww_lsel (lv' := [(0, .ref a_t), (2, .int v2_40), (3, .int v3), (4, .int v4)]) [1, 0, 2, 3] rfl ?_
                  exact cut_83 _ _ _ h
                · replace h := og_f c_76 h
                  refine ww_lsel (lv' := [(0, .ref a_t), (2, .int v2_40), (3, .int v3), (4, .int v4)]) [1, 0, 2, 3] rfl ?_
                  exact cut_79 _ _ _ h
      intro v1 v2 v3 h
      replace h : (if x_t_signs ≤ v3 then (if v1 = 0 then (some (-6)) else (some x_t_signs)) else (ogi v3 48 (ogl (f_pad (Int32.toNatClampNeg v3)) (fun (v4_20 : Int32) => if v1 = 0 then (if v4_20 = 63 then ((m_X8_faultOf_39 (m_X8_faultOf_6 f_pad x_t_signs fuel_6) f_pad x_t_signs v3 v4_20 v2 1)) else ((m_X8_faultOf_39 (m_X8_faultOf_6 f_pad x_t_signs fuel_6) f_pad x_t_signs v3 v4_20 v2 0))) else (if v1 = 2 then (ogb (m_X8_in v4_20 49 57) (fun q_124 => (m_X8_faultOf_156 (m_X8_faultOf_6 f_pad x_t_signs fuel_6) f_pad x_t_signs 0 v2 v3 q_124))) else (ogb (m_X8_in v4_20 97 101) (fun q_140 => if v1 = 1 then ((m_X8_faultOf_155 (m_X8_faultOf_6 f_pad x_t_signs fuel_6) f_pad x_t_signs v2 v3 q_140 2)) else ((m_X8_faultOf_155 (m_X8_faultOf_6 f_pad x_t_signs fuel_6) f_pad x_t_signs v2 v3 q_140 0)))))))) : Option Int32) = some res := h
      refine ww_iload_n B dX8_faultOf_6 3 rfl ?_
      refine ww_aload_n B dX8_faultOf_7 0 rfl ?_
      refine ww_get (ci := 8) (T := TX8) (C := RX8) (N := 24) B iX8 0 rfl rfl 5 (by decide) (by decide +kernel) rfl rfl dX8_faultOf_8 ?_
      refine ww_icmp_ge B 169 dX8_faultOf_11 (by decide) (fun c_11 => ?_) (fun c_11 => ?_)
      · replace h := og_t c_11 h
        refine ww_iload_n B dX8_faultOf_169 1 rfl ?_
        refine ww_if_ne B 178 dX8_faultOf_170 (by decide) (fun c_170 => ?_) (fun c_170 => ?_)
        · replace h := og_f c_170 h
          refine ww_aload_n B dX8_faultOf_178 0 rfl ?_
          refine ww_get (ci := 8) (T := TX8) (C := RX8) (N := 24) B iX8 0 rfl rfl 5 (by decide) (by decide +kernel) rfl rfl dX8_faultOf_179 ?_
          exact ww_iret B hA hQ hr dX8_faultOf_182 () [0, 1] rfl (by decide) (og_s h).symm
        · replace h := og_t c_170 h
          refine ww_bipush B dX8_faultOf_173 (v := (-6)) (by decide) ?_
          refine ww_goto B 182 dX8_faultOf_175 (by decide) ?_
          exact ww_iret B hA hQ hr dX8_faultOf_182 () [0, 1] rfl (by decide) (og_s h).symm
      · replace h := og_f c_11 h
        refine ww_aload_n B dX8_faultOf_14 0 rfl ?_
        refine ww_get (ci := 8) (T := TX8) (C := RX8) (N := 24) B iX8 0 rfl rfl 6 (by decide) (by decide +kernel) rfl rfl dX8_faultOf_15 ?_
        refine ww_iload_n B dX8_faultOf_18 3 rfl ?_
        obtain ⟨i_19, h⟩ := og_i h
        refine ww_iald B 1 rfl i_19 dX8_faultOf_19 ?_
        refine ww_topi (fun v4_20 ev4_20 => ?_)
        replace h := og_l ev4_20 h
        refine ww_istore B dX8_faultOf_20 (lv' := [(4, .int v4_20), (0, .ref a_t), (1, .int v1), (2, .int v2), (3, .int v3)]) (by decide) rfl ?_
        refine ww_iload_n B dX8_faultOf_22 2 rfl ?_
        refine ww_if_ne B 113 dX8_faultOf_23 (by decide) (fun c_23 => ?_) (fun c_23 => ?_)
        · replace h := og_f c_23 h
          refine ww_iload_n B dX8_faultOf_113 2 rfl ?_
          refine ww_iconst B dX8_faultOf_114 (v := 2) (by decide) ?_
          refine ww_icmp_ne B 134 dX8_faultOf_115 (by decide) (fun c_115 => ?_) (fun c_115 => ?_)
          · replace h := og_f c_115 h
            refine ww_iload B dX8_faultOf_134 0 rfl ?_
            refine ww_bipush B dX8_faultOf_136 (v := 97) (by decide) ?_
            refine ww_bipush B dX8_faultOf_138 (v := 101) (by decide) ?_
            obtain ⟨q_140, hq_140, h⟩ := og_b h
            refine ww_ci0 B (k' := 0) (n' := 0) rfl rfl [] [0, 1] (wr := [(a_t, .inr (8, [.ref b_may, .ref b_voyage, .ref b_lucky, .ref b_worths, .ref b_ranks, .int x_t_signs, .ref a_pad, .int x_t_day, .int x_t_reason, .ref b_bears, .ref b_due, .ref b_borneBy, .ref b_gone, .ref b_sunk, .ref b_times, .int x_t_asked, .ref b_whoBore, .ref b_gives, .ref b_best, .ref b_holds, .ref b_refused, .ref b_sums, .ref b_image, .ref b_isKept])), (a_pad, .inl (cI, 48, .inl f_pad))]) (st := []) rfl rfl (by decide) (rr_S B (c_X8_in l D cI cZ v4_20 97 101 hq_140) gX8_faultOf_X8_in rfl rfl rfl (N := 3) rfl (by decide +kernel) ⟨Nat.le_of_ble_eq_true rfl, Nat.le_of_ble_eq_true rfl⟩ rfl dX8_faultOf_140 (Nat.le_of_ble_eq_true rfl) ⟨Nat.le_of_ble_eq_true rfl, Nat.le_of_ble_eq_true rfl⟩) (ws' := [(a_t, .inr (8, [.ref b_may, .ref b_voyage, .ref b_lucky, .ref b_worths, .ref b_ranks, .int x_t_signs, .ref a_pad, .int x_t_day, .int x_t_reason, .ref b_bears, .ref b_due, .ref b_borneBy, .ref b_gone, .ref b_sunk, .ref b_times, .int x_t_asked, .ref b_whoBore, .ref b_gives, .ref b_best, .ref b_holds, .ref b_refused, .ref b_sums, .ref b_image, .ref b_isKept])), (a_pad, .inl (cI, 48, .inl f_pad))]) rfl ?_
            refine ww_istore B dX8_faultOf_143 (lv' := [(5, .int q_140), (4, .int v4_20), (0, .ref a_t), (1, .int v1), (2, .int v2), (3, .int v3)]) (by decide) rfl ?_
            refine ww_iload_n B dX8_faultOf_145 3 rfl ?_
            refine ww_iconst B dX8_faultOf_146 (v := 1) (by decide) ?_
            refine ww_icmp_ne B 154 dX8_faultOf_147 (by decide) (fun c_147 => ?_) (fun c_147 => ?_)
            · replace h := og_f c_147 h
              refine ww_iconst B dX8_faultOf_154 (v := 0) (by decide) ?_
              refine ww_lsel (lv' := [(0, .ref a_t), (2, .int v2), (3, .int v3), (5, .int q_140)]) [2, 4, 5, 0] rfl ?_
              exact cut_155 _ _ _ _ h
            · replace h := og_t c_147 h
              refine ww_iconst B dX8_faultOf_150 (v := 2) (by decide) ?_
              refine ww_goto B 155 dX8_faultOf_151 (by decide) ?_
              refine ww_lsel (lv' := [(0, .ref a_t), (2, .int v2), (3, .int v3), (5, .int q_140)]) [2, 4, 5, 0] rfl ?_
              exact cut_155 _ _ _ _ h
          · replace h := og_t c_115 h
            refine ww_iload B dX8_faultOf_118 0 rfl ?_
            refine ww_bipush B dX8_faultOf_120 (v := 49) (by decide) ?_
            refine ww_bipush B dX8_faultOf_122 (v := 57) (by decide) ?_
            obtain ⟨q_124, hq_124, h⟩ := og_b h
            refine ww_ci0 B (k' := 0) (n' := 0) rfl rfl [] [0, 1] (wr := [(a_t, .inr (8, [.ref b_may, .ref b_voyage, .ref b_lucky, .ref b_worths, .ref b_ranks, .int x_t_signs, .ref a_pad, .int x_t_day, .int x_t_reason, .ref b_bears, .ref b_due, .ref b_borneBy, .ref b_gone, .ref b_sunk, .ref b_times, .int x_t_asked, .ref b_whoBore, .ref b_gives, .ref b_best, .ref b_holds, .ref b_refused, .ref b_sums, .ref b_image, .ref b_isKept])), (a_pad, .inl (cI, 48, .inl f_pad))]) (st := []) rfl rfl (by decide) (rr_S B (c_X8_in l D cI cZ v4_20 49 57 hq_124) gX8_faultOf_X8_in rfl rfl rfl (N := 3) rfl (by decide +kernel) ⟨Nat.le_of_ble_eq_true rfl, Nat.le_of_ble_eq_true rfl⟩ rfl dX8_faultOf_124 (Nat.le_of_ble_eq_true rfl) ⟨Nat.le_of_ble_eq_true rfl, Nat.le_of_ble_eq_true rfl⟩) (ws' := [(a_t, .inr (8, [.ref b_may, .ref b_voyage, .ref b_lucky, .ref b_worths, .ref b_ranks, .int x_t_signs, .ref a_pad, .int x_t_day, .int x_t_reason, .ref b_bears, .ref b_due, .ref b_borneBy, .ref b_gone, .ref b_sunk, .ref b_times, .int x_t_asked, .ref b_whoBore, .ref b_gives, .ref b_best, .ref b_holds, .ref b_refused, .ref b_sums, .ref b_image, .ref b_isKept])), (a_pad, .inl (cI, 48, .inl f_pad))]) rfl ?_
            refine ww_istore B dX8_faultOf_127 (lv' := [(5, .int q_124), (4, .int v4_20), (0, .ref a_t), (1, .int v1), (2, .int v2), (3, .int v3)]) (by decide) rfl ?_
            refine ww_iconst B dX8_faultOf_129 (v := 0) (by decide) ?_
            refine ww_istore_n B dX8_faultOf_130 (lv' := [(1, .int 0), (5, .int q_124), (4, .int v4_20), (0, .ref a_t), (2, .int v2), (3, .int v3)]) (by decide) rfl ?_
            refine ww_goto B 156 dX8_faultOf_131 (by decide) ?_
            refine ww_lsel (lv' := [(0, .ref a_t), (1, .int 0), (2, .int v2), (3, .int v3), (5, .int q_124)]) [3, 0, 4, 5, 1] rfl ?_
            exact cut_156 _ _ _ _ h
        · replace h := og_t c_23 h
          refine ww_iload_n B dX8_faultOf_26 3 rfl ?_
          refine ww_iload B dX8_faultOf_27 0 rfl ?_
          refine ww_bipush B dX8_faultOf_29 (v := 63) (by decide) ?_
          refine ww_icmp_ne B 38 dX8_faultOf_31 (by decide) (fun c_31 => ?_) (fun c_31 => ?_)
          · replace h := og_f c_31 h
            refine ww_iconst B dX8_faultOf_38 (v := 0) (by decide) ?_
            refine ww_lsel (lv' := [(0, .ref a_t), (3, .int v3), (4, .int v4_20)]) [1, 4, 0] rfl ?_
            exact cut_39 _ _ _ _ h
          · replace h := og_t c_31 h
            refine ww_iconst B dX8_faultOf_34 (v := 1) (by decide) ?_
            refine ww_goto B 39 dX8_faultOf_35 (by decide) ?_
            refine ww_lsel (lv' := [(0, .ref a_t), (3, .int v3), (4, .int v4_20)]) [1, 4, 0] rfl ?_
            exact cut_39 _ _ _ _ h
  refine ww_iconst B dX8_faultOf_0 (v := 0) (by decide) ?_
  refine ww_istore_n B dX8_faultOf_1 (lv' := [(1, .int 0), (0, .ref a_t)]) (by decide) rfl ?_
  refine ww_iconst B dX8_faultOf_2 (v := 0) (by decide) ?_
  refine ww_istore_n B dX8_faultOf_3 (lv' := [(2, .int 0), (1, .int 0), (0, .ref a_t)]) (by decide) rfl ?_
  refine ww_iconst B dX8_faultOf_4 (v := 0) (by decide) ?_
  refine ww_istore_n B dX8_faultOf_5 (lv' := [(3, .int 0), (2, .int 0), (1, .int 0), (0, .ref a_t)]) (by decide) rfl ?_
  refine ww_lsel (lv' := [(0, .ref a_t), (1, .int 0), (2, .int 0), (3, .int 0)]) [3, 2, 1, 0] rfl ?_
  exact cut_6 _ _ _ _ h
noncomputable def m_X8_lastDay_29 (k4 : Int32 → Int32 → Option Int32) (f_pad : (Nat → Int32)) (x_t_signs : Int32) (v2 : Int32) (s0 : Int32) (s1 : Int32) : Option Int32 := ogl (s0 + s1) (fun (v1_30 : Int32) => ogl (v2 + 1) (fun (v2_31 : Int32) => (k4 v1_30 v2_31)))
noncomputable def m_X8_lastDay_4b (k4 : Int32 → Int32 → Option Int32) (f_pad : (Nat → Int32)) (x_t_signs : Int32) (v1 : Int32) (v2 : Int32) : Option Int32 := if x_t_signs ≤ v2 then (some v1) else (ogi v2 48 (if (f_pad (Int32.toNatClampNeg v2)) = 46 then ((m_X8_lastDay_29 k4 f_pad x_t_signs v2 v1 1)) else ((m_X8_lastDay_29 k4 f_pad x_t_signs v2 v1 0))))
noncomputable def m_X8_lastDay_4 (f_pad : (Nat → Int32)) (x_t_signs : Int32) (fuel : Nat) : Int32 → Int32 → Option Int32 := Nat.rec (fun _ _ => none) (fun _ k4 => m_X8_lastDay_4b k4 f_pad x_t_signs) fuel
noncomputable def m_X8_lastDay (f_pad : (Nat → Int32)) (x_t_signs : Int32) : Option Int32 := (m_X8_lastDay_4 f_pad x_t_signs 1000000 0 0)
set_option maxHeartbeats 4000000 in
set_option maxRecDepth 100000 in
theorem c_X8_lastDay (l : Launch) (D : va_G) (cI cZ : ClassId) (a_t a_pad b_may b_voyage b_lucky b_worths b_ranks b_bears b_due b_borneBy b_gone b_sunk b_times b_whoBore b_gives b_best b_holds b_refused b_sums b_image b_isKept : Nat) (f_pad : (Nat → Int32)) (x_t_signs : Int32) (x_t_day : Int32) (x_t_reason : Int32) (x_t_asked : Int32) {res : Int32} (h : m_X8_lastDay f_pad x_t_signs = some res) : CT l yX8_lastDay wsX8_lastDay ({ frames := 0, cells := 0, slots := 0, locals := 0 } : Room) D cI cZ [.ref a_t] [(a_t, .inr (8, [.ref b_may, .ref b_voyage, .ref b_lucky, .ref b_worths, .ref b_ranks, .int x_t_signs, .ref a_pad, .int x_t_day, .int x_t_reason, .ref b_bears, .ref b_due, .ref b_borneBy, .ref b_gone, .ref b_sunk, .ref b_times, .int x_t_asked, .ref b_whoBore, .ref b_gives, .ref b_best, .ref b_holds, .ref b_refused, .ref b_sums, .ref b_image, .ref b_isKept])), (a_pad, .inl (cI, 48, .inl f_pad))] (QI D [(a_t, .inr (8, [.ref b_may, .ref b_voyage, .ref b_lucky, .ref b_worths, .ref b_ranks, .int x_t_signs, .ref a_pad, .int x_t_day, .int x_t_reason, .ref b_bears, .ref b_due, .ref b_borneBy, .ref b_gone, .ref b_sunk, .ref b_times, .int x_t_asked, .ref b_whoBore, .ref b_gives, .ref b_best, .ref b_holds, .ref b_refused, .ref b_sums, .ref b_image, .ref b_isKept])), (a_pad, .inl (cI, 48, .inl f_pad))] (fun (r : Int32) (_ : Unit) => r = res) (fun (u : Unit) => [(a_t, .inr (8, [.ref b_may, .ref b_voyage, .ref b_lucky, .ref b_worths, .ref b_ranks, .int x_t_signs, .ref a_pad, .int x_t_day, .int x_t_reason, .ref b_bears, .ref b_due, .ref b_borneBy, .ref b_gone, .ref b_sunk, .ref b_times, .int x_t_asked, .ref b_whoBore, .ref b_gives, .ref b_best, .ref b_holds, .ref b_refused, .ref b_sums, .ref b_image, .ref b_isKept])), (a_pad, .inl (cI, 48, .inl f_pad))])) 0 0 := by
  have h : ((m_X8_lastDay_4 f_pad x_t_signs 1000000 0 0) : Option Int32) = some res := h
  refine ct_entry (cc := cX8_lastDay) (nl := 3) (ret := (some .int)) (own := RX8) (lv0 := [(0, .ref a_t)]) (by decide) rfl rfl (Nat.le_of_ble_eq_true rfl) rfl ?_
  intro p e s m args below meth c A Q hA hQ hr hnm B
  have iX8 : ∀ w ∈ wsX80, w ∈ wsX8_lastDay := by decide +kernel
  have cut_4 : ∀ (fuel : Nat) (v1 : Int32) (v2 : Int32), m_X8_lastDay_4 f_pad x_t_signs fuel v1 v2 = some res → WW p l e (headSpec wsX8_lastDay ({ frames := 0, cells := 0, slots := 0, locals := 0 } : Room)).room s m args below meth c D A 3 0 0 Q [(a_t, .inr (8, [.ref b_may, .ref b_voyage, .ref b_lucky, .ref b_worths, .ref b_ranks, .int x_t_signs, .ref a_pad, .int x_t_day, .int x_t_reason, .ref b_bears, .ref b_due, .ref b_borneBy, .ref b_gone, .ref b_sunk, .ref b_times, .int x_t_asked, .ref b_whoBore, .ref b_gives, .ref b_best, .ref b_holds, .ref b_refused, .ref b_sums, .ref b_image, .ref b_isKept])), (a_pad, .inl (cI, 48, .inl f_pad))] [(0, .ref a_t), (1, .int v1), (2, .int v2)] [] 4 := by
    intro fuel_4
    induction fuel_4 with
    | zero => intro v1 v2 h; exact og_0 h
    | succ fuel_4 ih_4 =>
      have cut_29 : ∀ (v2 : Int32) (s0 : Int32) (s1 : Int32), m_X8_lastDay_29 (m_X8_lastDay_4 f_pad x_t_signs fuel_4) f_pad x_t_signs v2 s0 s1 = some res → WW p l e (headSpec wsX8_lastDay ({ frames := 0, cells := 0, slots := 0, locals := 0 } : Room)).room s m args below meth c D A 3 0 0 Q [(a_t, .inr (8, [.ref b_may, .ref b_voyage, .ref b_lucky, .ref b_worths, .ref b_ranks, .int x_t_signs, .ref a_pad, .int x_t_day, .int x_t_reason, .ref b_bears, .ref b_due, .ref b_borneBy, .ref b_gone, .ref b_sunk, .ref b_times, .int x_t_asked, .ref b_whoBore, .ref b_gives, .ref b_best, .ref b_holds, .ref b_refused, .ref b_sums, .ref b_image, .ref b_isKept])), (a_pad, .inl (cI, 48, .inl f_pad))] [(0, .ref a_t), (2, .int v2)] [.int s1, .int s0] 29 := by
        intro v2 s0 s1 h
        replace h : (ogl (s0 + s1) (fun (v1_30 : Int32) => ogl (v2 + 1) (fun (v2_31 : Int32) => ((m_X8_lastDay_4 f_pad x_t_signs fuel_4) v1_30 v2_31))) : Option Int32) = some res := h
        refine ww_iadd B dX8_lastDay_29 ?_
        refine ww_topi (fun v1_30 ev1_30 => ?_)
        replace h := og_l ev1_30 h
        refine ww_istore_n B dX8_lastDay_30 (lv' := [(1, .int v1_30), (0, .ref a_t), (2, .int v2)]) (by decide) rfl ?_
        obtain ⟨v2_31, ev2_31⟩ : ∃ y : Int32, y = (v2 + 1) := ⟨_, rfl⟩
        refine ww_iinc B dX8_lastDay_31 2 rfl (v := v2_31) (by rw [ev2_31]; rfl) (by decide) (lv' := [(2, .int v2_31), (1, .int v1_30), (0, .ref a_t)]) rfl ?_
        replace h := og_l ev2_31 h
        refine ww_goto B 4 dX8_lastDay_34 (by decide) ?_
        refine ww_lsel (lv' := [(0, .ref a_t), (1, .int v1_30), (2, .int v2_31)]) [2, 1, 0] rfl ?_
        exact ih_4 _ _ h
      intro v1 v2 h
      replace h : (if x_t_signs ≤ v2 then (some v1) else (ogi v2 48 (if (f_pad (Int32.toNatClampNeg v2)) = 46 then ((m_X8_lastDay_29 (m_X8_lastDay_4 f_pad x_t_signs fuel_4) f_pad x_t_signs v2 v1 1)) else ((m_X8_lastDay_29 (m_X8_lastDay_4 f_pad x_t_signs fuel_4) f_pad x_t_signs v2 v1 0)))) : Option Int32) = some res := h
      refine ww_iload_n B dX8_lastDay_4 2 rfl ?_
      refine ww_aload_n B dX8_lastDay_5 0 rfl ?_
      refine ww_get (ci := 8) (T := TX8) (C := RX8) (N := 24) B iX8 0 rfl rfl 5 (by decide) (by decide +kernel) rfl rfl dX8_lastDay_6 ?_
      refine ww_icmp_ge B 37 dX8_lastDay_9 (by decide) (fun c_9 => ?_) (fun c_9 => ?_)
      · replace h := og_t c_9 h
        refine ww_iload_n B dX8_lastDay_37 1 rfl ?_
        exact ww_iret B hA hQ hr dX8_lastDay_38 () [0, 1] rfl (by decide) (og_s h).symm
      · replace h := og_f c_9 h
        refine ww_iload_n B dX8_lastDay_12 1 rfl ?_
        refine ww_aload_n B dX8_lastDay_13 0 rfl ?_
        refine ww_get (ci := 8) (T := TX8) (C := RX8) (N := 24) B iX8 0 rfl rfl 6 (by decide) (by decide +kernel) rfl rfl dX8_lastDay_14 ?_
        refine ww_iload_n B dX8_lastDay_17 2 rfl ?_
        obtain ⟨i_18, h⟩ := og_i h
        refine ww_iald B 1 rfl i_18 dX8_lastDay_18 ?_
        refine ww_bipush B dX8_lastDay_19 (v := 46) (by decide) ?_
        refine ww_icmp_ne B 28 dX8_lastDay_21 (by decide) (fun c_21 => ?_) (fun c_21 => ?_)
        · replace h := og_f c_21 h
          refine ww_iconst B dX8_lastDay_28 (v := 0) (by decide) ?_
          refine ww_lsel (lv' := [(0, .ref a_t), (2, .int v2)]) [0, 2] rfl ?_
          exact cut_29 _ _ _ h
        · replace h := og_t c_21 h
          refine ww_iconst B dX8_lastDay_24 (v := 1) (by decide) ?_
          refine ww_goto B 29 dX8_lastDay_25 (by decide) ?_
          refine ww_lsel (lv' := [(0, .ref a_t), (2, .int v2)]) [0, 2] rfl ?_
          exact cut_29 _ _ _ h
  refine ww_iconst B dX8_lastDay_0 (v := 0) (by decide) ?_
  refine ww_istore_n B dX8_lastDay_1 (lv' := [(1, .int 0), (0, .ref a_t)]) (by decide) rfl ?_
  refine ww_iconst B dX8_lastDay_2 (v := 0) (by decide) ?_
  refine ww_istore_n B dX8_lastDay_3 (lv' := [(2, .int 0), (1, .int 0), (0, .ref a_t)]) (by decide) rfl ?_
  refine ww_lsel (lv' := [(0, .ref a_t), (1, .int 0), (2, .int 0)]) [2, 1, 0] rfl ?_
  exact cut_4 _ _ _ h
noncomputable def m_X8_keepWho_47 (k2 : Int32 → (Nat → Int32) → Option ((Nat → Int32))) (f_borneBy : (Nat → Int32)) (x_t_day : Int32) (x_t_asked : Int32) (v1 : Int32) (s1 : Int32) (s2 : Int32) (f_whoBore : (Nat → Int32)) : Option ((Nat → Int32)) := ogi s1 5 (ogl (v1 + 1) (fun (v1_48 : Int32) => (k2 v1_48 (upd f_whoBore (Int32.toNatClampNeg s1) s2))))
noncomputable def m_X8_keepWho_2b (k2 : Int32 → (Nat → Int32) → Option ((Nat → Int32))) (f_borneBy : (Nat → Int32)) (x_t_day : Int32) (x_t_asked : Int32) (v1 : Int32) (f_whoBore : (Nat → Int32)) : Option ((Nat → Int32)) := if 5 ≤ v1 then (some f_whoBore) else (if x_t_day = x_t_asked then (ogi v1 5 (if (f_borneBy (Int32.toNatClampNeg v1)) < 0 then (ogi v1 5 ((m_X8_keepWho_47 k2 f_borneBy x_t_day x_t_asked v1 v1 (f_whoBore (Int32.toNatClampNeg v1)) f_whoBore))) else (ogi v1 5 ((m_X8_keepWho_47 k2 f_borneBy x_t_day x_t_asked v1 v1 (f_borneBy (Int32.toNatClampNeg v1)) f_whoBore))))) else (some f_whoBore))
noncomputable def m_X8_keepWho_2 (f_borneBy : (Nat → Int32)) (x_t_day : Int32) (x_t_asked : Int32) (fuel : Nat) : Int32 → (Nat → Int32) → Option ((Nat → Int32)) := Nat.rec (fun _ _ => none) (fun _ k2 => m_X8_keepWho_2b k2 f_borneBy x_t_day x_t_asked) fuel
noncomputable def m_X8_keepWho (f_borneBy : (Nat → Int32)) (x_t_day : Int32) (x_t_asked : Int32) (f_whoBore : (Nat → Int32)) : Option ((Nat → Int32)) := (m_X8_keepWho_2 f_borneBy x_t_day x_t_asked 1000000 0 f_whoBore)
set_option maxHeartbeats 4000000 in
set_option maxRecDepth 100000 in
theorem c_X8_keepWho (l : Launch) (D : va_G) (cI cZ : ClassId) (a_t a_borneBy a_whoBore b_may b_voyage b_lucky b_worths b_ranks b_pad b_bears b_due b_gone b_sunk b_times b_gives b_best b_holds b_refused b_sums b_image b_isKept : Nat) (f_borneBy : (Nat → Int32)) (f_whoBore : (Nat → Int32)) (x_t_signs : Int32) (x_t_day : Int32) (x_t_reason : Int32) (x_t_asked : Int32) {res : ((Nat → Int32))} (h : m_X8_keepWho f_borneBy x_t_day x_t_asked f_whoBore = some res) : CT l yX8_keepWho wsX8_keepWho ({ frames := 0, cells := 0, slots := 0, locals := 0 } : Room) D cI cZ [.ref a_t] [(a_t, .inr (8, [.ref b_may, .ref b_voyage, .ref b_lucky, .ref b_worths, .ref b_ranks, .int x_t_signs, .ref b_pad, .int x_t_day, .int x_t_reason, .ref b_bears, .ref b_due, .ref a_borneBy, .ref b_gone, .ref b_sunk, .ref b_times, .int x_t_asked, .ref a_whoBore, .ref b_gives, .ref b_best, .ref b_holds, .ref b_refused, .ref b_sums, .ref b_image, .ref b_isKept])), (a_borneBy, .inl (cI, 5, .inl f_borneBy)), (a_whoBore, .inl (cI, 5, .inl f_whoBore))] (QV D [(a_t, .inr (8, [.ref b_may, .ref b_voyage, .ref b_lucky, .ref b_worths, .ref b_ranks, .int x_t_signs, .ref b_pad, .int x_t_day, .int x_t_reason, .ref b_bears, .ref b_due, .ref a_borneBy, .ref b_gone, .ref b_sunk, .ref b_times, .int x_t_asked, .ref a_whoBore, .ref b_gives, .ref b_best, .ref b_holds, .ref b_refused, .ref b_sums, .ref b_image, .ref b_isKept])), (a_borneBy, .inl (cI, 5, .inl f_borneBy)), (a_whoBore, .inl (cI, 5, .inl f_whoBore))] (fun (u : (Nat → Int32)) => u = res) (fun (u : (Nat → Int32)) => [(a_t, .inr (8, [.ref b_may, .ref b_voyage, .ref b_lucky, .ref b_worths, .ref b_ranks, .int x_t_signs, .ref b_pad, .int x_t_day, .int x_t_reason, .ref b_bears, .ref b_due, .ref a_borneBy, .ref b_gone, .ref b_sunk, .ref b_times, .int x_t_asked, .ref a_whoBore, .ref b_gives, .ref b_best, .ref b_holds, .ref b_refused, .ref b_sums, .ref b_image, .ref b_isKept])), (a_borneBy, .inl (cI, 5, .inl f_borneBy)), (a_whoBore, .inl (cI, 5, .inl u))])) 0 0 := by
  have h : ((m_X8_keepWho_2 f_borneBy x_t_day x_t_asked 1000000 0 f_whoBore) : Option ((Nat → Int32))) = some res := h
  refine ct_entry (cc := cX8_keepWho) (nl := 2) (ret := none) (own := RX8) (lv0 := [(0, .ref a_t)]) (by decide) rfl rfl (Nat.le_of_ble_eq_true rfl) rfl ?_
  intro p e s m args below meth c A Q hA hQ hr hnm B
  have iX8 : ∀ w ∈ wsX80, w ∈ wsX8_keepWho := by decide +kernel
  have cut_2 : ∀ (fuel : Nat) (v1 : Int32) (f_whoBore : (Nat → Int32)), m_X8_keepWho_2 f_borneBy x_t_day x_t_asked fuel v1 f_whoBore = some res → WW p l e (headSpec wsX8_keepWho ({ frames := 0, cells := 0, slots := 0, locals := 0 } : Room)).room s m args below meth c D A 2 0 0 Q [(a_t, .inr (8, [.ref b_may, .ref b_voyage, .ref b_lucky, .ref b_worths, .ref b_ranks, .int x_t_signs, .ref b_pad, .int x_t_day, .int x_t_reason, .ref b_bears, .ref b_due, .ref a_borneBy, .ref b_gone, .ref b_sunk, .ref b_times, .int x_t_asked, .ref a_whoBore, .ref b_gives, .ref b_best, .ref b_holds, .ref b_refused, .ref b_sums, .ref b_image, .ref b_isKept])), (a_borneBy, .inl (cI, 5, .inl f_borneBy)), (a_whoBore, .inl (cI, 5, .inl f_whoBore))] [(0, .ref a_t), (1, .int v1)] [] 2 := by
    intro fuel_2
    induction fuel_2 with
    | zero => intro v1 f_whoBore h; exact og_0 h
    | succ fuel_2 ih_2 =>
      have cut_47 : ∀ (v1 : Int32) (s1 : Int32) (s2 : Int32) (f_whoBore : (Nat → Int32)), m_X8_keepWho_47 (m_X8_keepWho_2 f_borneBy x_t_day x_t_asked fuel_2) f_borneBy x_t_day x_t_asked v1 s1 s2 f_whoBore = some res → WW p l e (headSpec wsX8_keepWho ({ frames := 0, cells := 0, slots := 0, locals := 0 } : Room)).room s m args below meth c D A 2 0 0 Q [(a_t, .inr (8, [.ref b_may, .ref b_voyage, .ref b_lucky, .ref b_worths, .ref b_ranks, .int x_t_signs, .ref b_pad, .int x_t_day, .int x_t_reason, .ref b_bears, .ref b_due, .ref a_borneBy, .ref b_gone, .ref b_sunk, .ref b_times, .int x_t_asked, .ref a_whoBore, .ref b_gives, .ref b_best, .ref b_holds, .ref b_refused, .ref b_sums, .ref b_image, .ref b_isKept])), (a_borneBy, .inl (cI, 5, .inl f_borneBy)), (a_whoBore, .inl (cI, 5, .inl f_whoBore))] [(0, .ref a_t), (1, .int v1)] [.int s2, .int s1, .ref a_whoBore] 47 := by
        intro v1 s1 s2 f_whoBore h
        replace h : (ogi s1 5 (ogl (v1 + 1) (fun (v1_48 : Int32) => ((m_X8_keepWho_2 f_borneBy x_t_day x_t_asked fuel_2) v1_48 (upd f_whoBore (Int32.toNatClampNeg s1) s2)))) : Option ((Nat → Int32))) = some res := h
        obtain ⟨i_47, h⟩ := og_i h
        refine ww_iast B 2 rfl i_47 dX8_keepWho_47 (ws' := [(a_t, .inr (8, [.ref b_may, .ref b_voyage, .ref b_lucky, .ref b_worths, .ref b_ranks, .int x_t_signs, .ref b_pad, .int x_t_day, .int x_t_reason, .ref b_bears, .ref b_due, .ref a_borneBy, .ref b_gone, .ref b_sunk, .ref b_times, .int x_t_asked, .ref a_whoBore, .ref b_gives, .ref b_best, .ref b_holds, .ref b_refused, .ref b_sums, .ref b_image, .ref b_isKept])), (a_borneBy, .inl (cI, 5, .inl f_borneBy)), (a_whoBore, .inl (cI, 5, .inl (upd f_whoBore (Int32.toNatClampNeg s1) s2)))]) rfl ?_
        obtain ⟨v1_48, ev1_48⟩ : ∃ y : Int32, y = (v1 + 1) := ⟨_, rfl⟩
        refine ww_iinc B dX8_keepWho_48 1 rfl (v := v1_48) (by rw [ev1_48]; rfl) (by decide) (lv' := [(1, .int v1_48), (0, .ref a_t)]) rfl ?_
        replace h := og_l ev1_48 h
        refine ww_goto B 2 dX8_keepWho_51 (by decide) ?_
        refine ww_lsel (lv' := [(0, .ref a_t), (1, .int v1_48)]) [1, 0] rfl ?_
        exact ih_2 _ _ h
      intro v1 f_whoBore h
      replace h : (if 5 ≤ v1 then (some f_whoBore) else (if x_t_day = x_t_asked then (ogi v1 5 (if (f_borneBy (Int32.toNatClampNeg v1)) < 0 then (ogi v1 5 ((m_X8_keepWho_47 (m_X8_keepWho_2 f_borneBy x_t_day x_t_asked fuel_2) f_borneBy x_t_day x_t_asked v1 v1 (f_whoBore (Int32.toNatClampNeg v1)) f_whoBore))) else (ogi v1 5 ((m_X8_keepWho_47 (m_X8_keepWho_2 f_borneBy x_t_day x_t_asked fuel_2) f_borneBy x_t_day x_t_asked v1 v1 (f_borneBy (Int32.toNatClampNeg v1)) f_whoBore))))) else (some f_whoBore)) : Option ((Nat → Int32))) = some res := h
      refine ww_iload_n B dX8_keepWho_2 1 rfl ?_
      refine ww_iconst B dX8_keepWho_3 (v := 5) (by decide) ?_
      refine ww_icmp_ge B 54 dX8_keepWho_4 (by decide) (fun c_4 => ?_) (fun c_4 => ?_)
      · replace h := og_t c_4 h
        exact ww_vret B hA hQ hr dX8_keepWho_54 f_whoBore [0, 1, 2] rfl (by decide) (og_s h).symm
      · replace h := og_f c_4 h
        refine ww_aload_n B dX8_keepWho_7 0 rfl ?_
        refine ww_get (ci := 8) (T := TX8) (C := RX8) (N := 24) B iX8 0 rfl rfl 7 (by decide) (by decide +kernel) rfl rfl dX8_keepWho_8 ?_
        refine ww_aload_n B dX8_keepWho_11 0 rfl ?_
        refine ww_get (ci := 8) (T := TX8) (C := RX8) (N := 24) B iX8 0 rfl rfl 15 (by decide) (by decide +kernel) rfl rfl dX8_keepWho_12 ?_
        refine ww_icmp_ne B 54 dX8_keepWho_15 (by decide) (fun c_15 => ?_) (fun c_15 => ?_)
        · replace h := og_f c_15 h
          exact ww_vret B hA hQ hr dX8_keepWho_54 f_whoBore [0, 1, 2] rfl (by decide) (og_s h).symm
        · replace h := og_t c_15 h
          refine ww_aload_n B dX8_keepWho_18 0 rfl ?_
          refine ww_get (ci := 8) (T := TX8) (C := RX8) (N := 24) B iX8 0 rfl rfl 16 (by decide) (by decide +kernel) rfl rfl dX8_keepWho_19 ?_
          refine ww_iload_n B dX8_keepWho_22 1 rfl ?_
          refine ww_aload_n B dX8_keepWho_23 0 rfl ?_
          refine ww_get (ci := 8) (T := TX8) (C := RX8) (N := 24) B iX8 0 rfl rfl 11 (by decide) (by decide +kernel) rfl rfl dX8_keepWho_24 ?_
          refine ww_iload_n B dX8_keepWho_27 1 rfl ?_
          obtain ⟨i_28, h⟩ := og_i h
          refine ww_iald B 1 rfl i_28 dX8_keepWho_28 ?_
          refine ww_if_lt B 41 dX8_keepWho_29 (by decide) (fun c_29 => ?_) (fun c_29 => ?_)
          · replace h := og_t c_29 h
            refine ww_aload_n B dX8_keepWho_41 0 rfl ?_
            refine ww_get (ci := 8) (T := TX8) (C := RX8) (N := 24) B iX8 0 rfl rfl 16 (by decide) (by decide +kernel) rfl rfl dX8_keepWho_42 ?_
            refine ww_iload_n B dX8_keepWho_45 1 rfl ?_
            obtain ⟨i_46, h⟩ := og_i h
            refine ww_iald B 2 rfl i_46 dX8_keepWho_46 ?_
            exact cut_47 _ _ _ _ h
          · replace h := og_f c_29 h
            refine ww_aload_n B dX8_keepWho_32 0 rfl ?_
            refine ww_get (ci := 8) (T := TX8) (C := RX8) (N := 24) B iX8 0 rfl rfl 11 (by decide) (by decide +kernel) rfl rfl dX8_keepWho_33 ?_
            refine ww_iload_n B dX8_keepWho_36 1 rfl ?_
            obtain ⟨i_37, h⟩ := og_i h
            refine ww_iald B 1 rfl i_37 dX8_keepWho_37 ?_
            refine ww_goto B 47 dX8_keepWho_38 (by decide) ?_
            exact cut_47 _ _ _ _ h
  refine ww_iconst B dX8_keepWho_0 (v := 0) (by decide) ?_
  refine ww_istore_n B dX8_keepWho_1 (lv' := [(1, .int 0), (0, .ref a_t)]) (by decide) rfl ?_
  refine ww_lsel (lv' := [(0, .ref a_t), (1, .int 0)]) [1, 0] rfl ?_
  exact cut_2 _ _ _ h
noncomputable def m_X8_nextDay_70 (k12 : Int32 → (Nat → Int32) → (Nat → Int32) → (Nat → Int32) → (Nat → Int32) → Int32 → Option ((Nat → Int32) × (Nat → Int32) × (Nat → Int32) × (Nat → Int32) × Int32)) (f_due : (Nat → Int32)) (x_t_asked : Int32) (v1 : Int32) (f_bears : (Nat → Int32)) (f_borneBy : (Nat → Int32)) (f_times : (Nat → Int32)) (f_whoBore : (Nat → Int32)) (x_t_day : Int32) : Option ((Nat → Int32) × (Nat → Int32) × (Nat → Int32) × (Nat → Int32) × Int32) := ogl (v1 + 1) (fun (v1_70 : Int32) => (k12 v1_70 f_bears f_borneBy f_times f_whoBore x_t_day))
noncomputable def m_X8_nextDay_12b (k12 : Int32 → (Nat → Int32) → (Nat → Int32) → (Nat → Int32) → (Nat → Int32) → Int32 → Option ((Nat → Int32) × (Nat → Int32) × (Nat → Int32) × (Nat → Int32) × Int32)) (f_due : (Nat → Int32)) (x_t_asked : Int32) (v1 : Int32) (f_bears : (Nat → Int32)) (f_borneBy : (Nat → Int32)) (f_times : (Nat → Int32)) (f_whoBore : (Nat → Int32)) (x_t_day : Int32) : Option ((Nat → Int32) × (Nat → Int32) × (Nat → Int32) × (Nat → Int32) × Int32) := if 5 ≤ v1 then (ogb (m_X8_keepWho f_borneBy x_t_day x_t_asked f_whoBore) (fun q_77 => some (f_bears, f_borneBy, f_times, q_77, x_t_day))) else (ogi v1 5 (if (f_borneBy (Int32.toNatClampNeg v1)) < 0 then ((m_X8_nextDay_70 k12 f_due x_t_asked v1 f_bears f_borneBy f_times f_whoBore x_t_day)) else (ogi v1 5 (if (f_due (Int32.toNatClampNeg v1)) = x_t_day then (ogi v1 5 (ogi (f_borneBy (Int32.toNatClampNeg v1)) 6 (ogi v1 5 (ogi v1 5 (ogi v1 5 ((m_X8_nextDay_70 k12 f_due x_t_asked v1 (upd f_bears (Int32.toNatClampNeg (f_borneBy (Int32.toNatClampNeg v1))) (-6)) (upd f_borneBy (Int32.toNatClampNeg v1) (-6)) (upd f_times (Int32.toNatClampNeg v1) ((f_times (Int32.toNatClampNeg v1)) + 1)) f_whoBore x_t_day))))))) else ((m_X8_nextDay_70 k12 f_due x_t_asked v1 f_bears f_borneBy f_times f_whoBore x_t_day))))))
noncomputable def m_X8_nextDay_12 (f_due : (Nat → Int32)) (x_t_asked : Int32) (fuel : Nat) : Int32 → (Nat → Int32) → (Nat → Int32) → (Nat → Int32) → (Nat → Int32) → Int32 → Option ((Nat → Int32) × (Nat → Int32) × (Nat → Int32) × (Nat → Int32) × Int32) := Nat.rec (fun _ _ _ _ _ _ => none) (fun _ k12 => m_X8_nextDay_12b k12 f_due x_t_asked) fuel
noncomputable def m_X8_nextDay (f_due : (Nat → Int32)) (x_t_asked : Int32) (f_bears : (Nat → Int32)) (f_borneBy : (Nat → Int32)) (f_times : (Nat → Int32)) (f_whoBore : (Nat → Int32)) (x_t_day : Int32) : Option ((Nat → Int32) × (Nat → Int32) × (Nat → Int32) × (Nat → Int32) × Int32) := ogl (x_t_day + 1) (fun (w_7 : Int32) => (m_X8_nextDay_12 f_due x_t_asked 1000000 0 f_bears f_borneBy f_times f_whoBore w_7))
set_option maxHeartbeats 4000000 in
set_option maxRecDepth 100000 in
theorem c_X8_nextDay (l : Launch) (D : va_G) (cI cZ : ClassId) (a_t a_bears a_borneBy a_due a_times a_whoBore b_may b_voyage b_lucky b_worths b_ranks b_pad b_gone b_sunk b_gives b_best b_holds b_refused b_sums b_image b_isKept : Nat) (f_bears : (Nat → Int32)) (f_borneBy : (Nat → Int32)) (f_due : (Nat → Int32)) (f_times : (Nat → Int32)) (f_whoBore : (Nat → Int32)) (x_t_signs : Int32) (x_t_day : Int32) (x_t_reason : Int32) (x_t_asked : Int32) {res : ((Nat → Int32) × (Nat → Int32) × (Nat → Int32) × (Nat → Int32) × Int32)} (h : m_X8_nextDay f_due x_t_asked f_bears f_borneBy f_times f_whoBore x_t_day = some res) : CT l yX8_nextDay wsX8_nextDay ({ frames := 1, cells := 0, slots := 0, locals := 21 } : Room) D cI cZ [.ref a_t] [(a_t, .inr (8, [.ref b_may, .ref b_voyage, .ref b_lucky, .ref b_worths, .ref b_ranks, .int x_t_signs, .ref b_pad, .int x_t_day, .int x_t_reason, .ref a_bears, .ref a_due, .ref a_borneBy, .ref b_gone, .ref b_sunk, .ref a_times, .int x_t_asked, .ref a_whoBore, .ref b_gives, .ref b_best, .ref b_holds, .ref b_refused, .ref b_sums, .ref b_image, .ref b_isKept])), (a_bears, .inl (cI, 6, .inl f_bears)), (a_borneBy, .inl (cI, 5, .inl f_borneBy)), (a_due, .inl (cI, 5, .inl f_due)), (a_times, .inl (cI, 5, .inl f_times)), (a_whoBore, .inl (cI, 5, .inl f_whoBore))] (QV D [(a_t, .inr (8, [.ref b_may, .ref b_voyage, .ref b_lucky, .ref b_worths, .ref b_ranks, .int x_t_signs, .ref b_pad, .int x_t_day, .int x_t_reason, .ref a_bears, .ref a_due, .ref a_borneBy, .ref b_gone, .ref b_sunk, .ref a_times, .int x_t_asked, .ref a_whoBore, .ref b_gives, .ref b_best, .ref b_holds, .ref b_refused, .ref b_sums, .ref b_image, .ref b_isKept])), (a_bears, .inl (cI, 6, .inl f_bears)), (a_borneBy, .inl (cI, 5, .inl f_borneBy)), (a_due, .inl (cI, 5, .inl f_due)), (a_times, .inl (cI, 5, .inl f_times)), (a_whoBore, .inl (cI, 5, .inl f_whoBore))] (fun (u : (Nat → Int32) × (Nat → Int32) × (Nat → Int32) × (Nat → Int32) × Int32) => u = res) (fun (u : (Nat → Int32) × (Nat → Int32) × (Nat → Int32) × (Nat → Int32) × Int32) => [(a_t, .inr (8, [.ref b_may, .ref b_voyage, .ref b_lucky, .ref b_worths, .ref b_ranks, .int x_t_signs, .ref b_pad, .int u.2.2.2.2, .int x_t_reason, .ref a_bears, .ref a_due, .ref a_borneBy, .ref b_gone, .ref b_sunk, .ref a_times, .int x_t_asked, .ref a_whoBore, .ref b_gives, .ref b_best, .ref b_holds, .ref b_refused, .ref b_sums, .ref b_image, .ref b_isKept])), (a_bears, .inl (cI, 6, .inl u.1)), (a_borneBy, .inl (cI, 5, .inl u.2.1)), (a_due, .inl (cI, 5, .inl f_due)), (a_times, .inl (cI, 5, .inl u.2.2.1)), (a_whoBore, .inl (cI, 5, .inl u.2.2.2.1))])) 0 0 := by
  have h : (ogl (x_t_day + 1) (fun (w_7 : Int32) => (m_X8_nextDay_12 f_due x_t_asked 1000000 0 f_bears f_borneBy f_times f_whoBore w_7)) : Option ((Nat → Int32) × (Nat → Int32) × (Nat → Int32) × (Nat → Int32) × Int32)) = some res := h
  refine ct_entry (cc := cX8_nextDay) (nl := 2) (ret := none) (own := RX8) (lv0 := [(0, .ref a_t)]) (by decide) rfl rfl (Nat.le_of_ble_eq_true rfl) rfl ?_
  intro p e s m args below meth c A Q hA hQ hr hnm B
  have iX8 : ∀ w ∈ wsX80, w ∈ wsX8_nextDay := by decide +kernel
  have cut_12 : ∀ (fuel : Nat) (v1 : Int32) (f_bears : (Nat → Int32)) (f_borneBy : (Nat → Int32)) (f_times : (Nat → Int32)) (f_whoBore : (Nat → Int32)) (x_t_day : Int32), m_X8_nextDay_12 f_due x_t_asked fuel v1 f_bears f_borneBy f_times f_whoBore x_t_day = some res → WW p l e (headSpec wsX8_nextDay ({ frames := 1, cells := 0, slots := 0, locals := 21 } : Room)).room s m args below meth c D A 2 0 0 Q [(a_t, .inr (8, [.ref b_may, .ref b_voyage, .ref b_lucky, .ref b_worths, .ref b_ranks, .int x_t_signs, .ref b_pad, .int x_t_day, .int x_t_reason, .ref a_bears, .ref a_due, .ref a_borneBy, .ref b_gone, .ref b_sunk, .ref a_times, .int x_t_asked, .ref a_whoBore, .ref b_gives, .ref b_best, .ref b_holds, .ref b_refused, .ref b_sums, .ref b_image, .ref b_isKept])), (a_bears, .inl (cI, 6, .inl f_bears)), (a_borneBy, .inl (cI, 5, .inl f_borneBy)), (a_due, .inl (cI, 5, .inl f_due)), (a_times, .inl (cI, 5, .inl f_times)), (a_whoBore, .inl (cI, 5, .inl f_whoBore))] [(0, .ref a_t), (1, .int v1)] [] 12 := by
    intro fuel_12
    induction fuel_12 with
    | zero => intro v1 f_bears f_borneBy f_times f_whoBore x_t_day h; exact og_0 h
    | succ fuel_12 ih_12 =>
      have cut_70 : ∀ (v1 : Int32) (f_bears : (Nat → Int32)) (f_borneBy : (Nat → Int32)) (f_times : (Nat → Int32)) (f_whoBore : (Nat → Int32)) (x_t_day : Int32), m_X8_nextDay_70 (m_X8_nextDay_12 f_due x_t_asked fuel_12) f_due x_t_asked v1 f_bears f_borneBy f_times f_whoBore x_t_day = some res → WW p l e (headSpec wsX8_nextDay ({ frames := 1, cells := 0, slots := 0, locals := 21 } : Room)).room s m args below meth c D A 2 0 0 Q [(a_t, .inr (8, [.ref b_may, .ref b_voyage, .ref b_lucky, .ref b_worths, .ref b_ranks, .int x_t_signs, .ref b_pad, .int x_t_day, .int x_t_reason, .ref a_bears, .ref a_due, .ref a_borneBy, .ref b_gone, .ref b_sunk, .ref a_times, .int x_t_asked, .ref a_whoBore, .ref b_gives, .ref b_best, .ref b_holds, .ref b_refused, .ref b_sums, .ref b_image, .ref b_isKept])), (a_bears, .inl (cI, 6, .inl f_bears)), (a_borneBy, .inl (cI, 5, .inl f_borneBy)), (a_due, .inl (cI, 5, .inl f_due)), (a_times, .inl (cI, 5, .inl f_times)), (a_whoBore, .inl (cI, 5, .inl f_whoBore))] [(0, .ref a_t), (1, .int v1)] [] 70 := by
        intro v1 f_bears f_borneBy f_times f_whoBore x_t_day h
        replace h : (ogl (v1 + 1) (fun (v1_70 : Int32) => ((m_X8_nextDay_12 f_due x_t_asked fuel_12) v1_70 f_bears f_borneBy f_times f_whoBore x_t_day)) : Option ((Nat → Int32) × (Nat → Int32) × (Nat → Int32) × (Nat → Int32) × Int32)) = some res := h
        obtain ⟨v1_70, ev1_70⟩ : ∃ y : Int32, y = (v1 + 1) := ⟨_, rfl⟩
        refine ww_iinc B dX8_nextDay_70 1 rfl (v := v1_70) (by rw [ev1_70]; rfl) (by decide) (lv' := [(1, .int v1_70), (0, .ref a_t)]) rfl ?_
        replace h := og_l ev1_70 h
        refine ww_goto B 12 dX8_nextDay_73 (by decide) ?_
        refine ww_lsel (lv' := [(0, .ref a_t), (1, .int v1_70)]) [1, 0] rfl ?_
        exact ih_12 _ _ _ _ _ _ h
      intro v1 f_bears f_borneBy f_times f_whoBore x_t_day h
      replace h : (if 5 ≤ v1 then (ogb (m_X8_keepWho f_borneBy x_t_day x_t_asked f_whoBore) (fun q_77 => some (f_bears, f_borneBy, f_times, q_77, x_t_day))) else (ogi v1 5 (if (f_borneBy (Int32.toNatClampNeg v1)) < 0 then ((m_X8_nextDay_70 (m_X8_nextDay_12 f_due x_t_asked fuel_12) f_due x_t_asked v1 f_bears f_borneBy f_times f_whoBore x_t_day)) else (ogi v1 5 (if (f_due (Int32.toNatClampNeg v1)) = x_t_day then (ogi v1 5 (ogi (f_borneBy (Int32.toNatClampNeg v1)) 6 (ogi v1 5 (ogi v1 5 (ogi v1 5 ((m_X8_nextDay_70 (m_X8_nextDay_12 f_due x_t_asked fuel_12) f_due x_t_asked v1 (upd f_bears (Int32.toNatClampNeg (f_borneBy (Int32.toNatClampNeg v1))) (-6)) (upd f_borneBy (Int32.toNatClampNeg v1) (-6)) (upd f_times (Int32.toNatClampNeg v1) ((f_times (Int32.toNatClampNeg v1)) + 1)) f_whoBore x_t_day))))))) else ((m_X8_nextDay_70 (m_X8_nextDay_12 f_due x_t_asked fuel_12) f_due x_t_asked v1 f_bears f_borneBy f_times f_whoBore x_t_day)))))) : Option ((Nat → Int32) × (Nat → Int32) × (Nat → Int32) × (Nat → Int32) × Int32)) = some res := h
      refine ww_iload_n B dX8_nextDay_12 1 rfl ?_
      refine ww_iconst B dX8_nextDay_13 (v := 5) (by decide) ?_
      refine ww_icmp_ge B 76 dX8_nextDay_14 (by decide) (fun c_14 => ?_) (fun c_14 => ?_)
      · replace h := og_t c_14 h
        refine ww_aload_n B dX8_nextDay_76 0 rfl ?_
        obtain ⟨q_77, hq_77, h⟩ := og_b h
        refine ww_cvM B (k' := 0) (n' := 0) rfl rfl [0, 2, 5] [1, 3, 4] (wr := [(a_bears, .inl (cI, 6, .inl f_bears)), (a_due, .inl (cI, 5, .inl f_due)), (a_times, .inl (cI, 5, .inl f_times))]) (st := []) rfl rfl (by decide) (rr_V B (c_X8_keepWho l D cI cZ a_t a_borneBy a_whoBore b_may b_voyage b_lucky b_worths b_ranks b_pad a_bears a_due b_gone b_sunk a_times b_gives b_best b_holds b_refused b_sums b_image b_isKept f_borneBy f_whoBore x_t_signs x_t_day x_t_reason x_t_asked hq_77) gX8_nextDay_X8_keepWho rfl rfl rfl (N := 0) rfl (by decide +kernel) ⟨Nat.le_of_ble_eq_true rfl, Nat.le_of_ble_eq_true rfl⟩ rfl dX8_nextDay_77 0 rfl rfl (Nat.le_of_ble_eq_true rfl) ⟨Nat.le_of_ble_eq_true rfl, Nat.le_of_ble_eq_true rfl⟩) (ws' := [(a_bears, .inl (cI, 6, .inl f_bears)), (a_due, .inl (cI, 5, .inl f_due)), (a_times, .inl (cI, 5, .inl f_times)), (a_t, .inr (8, [.ref b_may, .ref b_voyage, .ref b_lucky, .ref b_worths, .ref b_ranks, .int x_t_signs, .ref b_pad, .int x_t_day, .int x_t_reason, .ref a_bears, .ref a_due, .ref a_borneBy, .ref b_gone, .ref b_sunk, .ref a_times, .int x_t_asked, .ref a_whoBore, .ref b_gives, .ref b_best, .ref b_holds, .ref b_refused, .ref b_sums, .ref b_image, .ref b_isKept])), (a_borneBy, .inl (cI, 5, .inl f_borneBy)), (a_whoBore, .inl (cI, 5, .inl q_77))]) rfl ?_
        exact ww_vret B hA hQ hr dX8_nextDay_80 (f_bears, f_borneBy, f_times, q_77, x_t_day) [3, 0, 4, 1, 2, 5] rfl (by decide) (og_s h).symm
      · replace h := og_f c_14 h
        refine ww_aload_n B dX8_nextDay_17 0 rfl ?_
        refine ww_get (ci := 8) (T := TX8) (C := RX8) (N := 24) B iX8 0 rfl rfl 11 (by decide) (by decide +kernel) rfl rfl dX8_nextDay_18 ?_
        refine ww_iload_n B dX8_nextDay_21 1 rfl ?_
        obtain ⟨i_22, h⟩ := og_i h
        refine ww_iald B 2 rfl i_22 dX8_nextDay_22 ?_
        refine ww_if_lt B 70 dX8_nextDay_23 (by decide) (fun c_23 => ?_) (fun c_23 => ?_)
        · replace h := og_t c_23 h
          exact cut_70 _ _ _ _ _ _ h
        · replace h := og_f c_23 h
          refine ww_aload_n B dX8_nextDay_26 0 rfl ?_
          refine ww_get (ci := 8) (T := TX8) (C := RX8) (N := 24) B iX8 0 rfl rfl 10 (by decide) (by decide +kernel) rfl rfl dX8_nextDay_27 ?_
          refine ww_iload_n B dX8_nextDay_30 1 rfl ?_
          obtain ⟨i_31, h⟩ := og_i h
          refine ww_iald B 3 rfl i_31 dX8_nextDay_31 ?_
          refine ww_aload_n B dX8_nextDay_32 0 rfl ?_
          refine ww_get (ci := 8) (T := TX8) (C := RX8) (N := 24) B iX8 0 rfl rfl 7 (by decide) (by decide +kernel) rfl rfl dX8_nextDay_33 ?_
          refine ww_icmp_ne B 70 dX8_nextDay_36 (by decide) (fun c_36 => ?_) (fun c_36 => ?_)
          · replace h := og_f c_36 h
            exact cut_70 _ _ _ _ _ _ h
          · replace h := og_t c_36 h
            refine ww_aload_n B dX8_nextDay_39 0 rfl ?_
            refine ww_get (ci := 8) (T := TX8) (C := RX8) (N := 24) B iX8 0 rfl rfl 9 (by decide) (by decide +kernel) rfl rfl dX8_nextDay_40 ?_
            refine ww_aload_n B dX8_nextDay_43 0 rfl ?_
            refine ww_get (ci := 8) (T := TX8) (C := RX8) (N := 24) B iX8 0 rfl rfl 11 (by decide) (by decide +kernel) rfl rfl dX8_nextDay_44 ?_
            refine ww_iload_n B dX8_nextDay_47 1 rfl ?_
            obtain ⟨i_48, h⟩ := og_i h
            refine ww_iald B 2 rfl i_48 dX8_nextDay_48 ?_
            refine ww_bipush B dX8_nextDay_49 (v := (-6)) (by decide) ?_
            obtain ⟨i_51, h⟩ := og_i h
            refine ww_iast B 1 rfl i_51 dX8_nextDay_51 (ws' := [(a_t, .inr (8, [.ref b_may, .ref b_voyage, .ref b_lucky, .ref b_worths, .ref b_ranks, .int x_t_signs, .ref b_pad, .int x_t_day, .int x_t_reason, .ref a_bears, .ref a_due, .ref a_borneBy, .ref b_gone, .ref b_sunk, .ref a_times, .int x_t_asked, .ref a_whoBore, .ref b_gives, .ref b_best, .ref b_holds, .ref b_refused, .ref b_sums, .ref b_image, .ref b_isKept])), (a_bears, .inl (cI, 6, .inl (upd f_bears (Int32.toNatClampNeg (f_borneBy (Int32.toNatClampNeg v1))) (-6)))), (a_borneBy, .inl (cI, 5, .inl f_borneBy)), (a_due, .inl (cI, 5, .inl f_due)), (a_times, .inl (cI, 5, .inl f_times)), (a_whoBore, .inl (cI, 5, .inl f_whoBore))]) rfl ?_
            refine ww_aload_n B dX8_nextDay_52 0 rfl ?_
            refine ww_get (ci := 8) (T := TX8) (C := RX8) (N := 24) B iX8 0 rfl rfl 11 (by decide) (by decide +kernel) rfl rfl dX8_nextDay_53 ?_
            refine ww_iload_n B dX8_nextDay_56 1 rfl ?_
            refine ww_bipush B dX8_nextDay_57 (v := (-6)) (by decide) ?_
            obtain ⟨i_59, h⟩ := og_i h
            refine ww_iast B 2 rfl i_59 dX8_nextDay_59 (ws' := [(a_t, .inr (8, [.ref b_may, .ref b_voyage, .ref b_lucky, .ref b_worths, .ref b_ranks, .int x_t_signs, .ref b_pad, .int x_t_day, .int x_t_reason, .ref a_bears, .ref a_due, .ref a_borneBy, .ref b_gone, .ref b_sunk, .ref a_times, .int x_t_asked, .ref a_whoBore, .ref b_gives, .ref b_best, .ref b_holds, .ref b_refused, .ref b_sums, .ref b_image, .ref b_isKept])), (a_bears, .inl (cI, 6, .inl (upd f_bears (Int32.toNatClampNeg (f_borneBy (Int32.toNatClampNeg v1))) (-6)))), (a_borneBy, .inl (cI, 5, .inl (upd f_borneBy (Int32.toNatClampNeg v1) (-6)))), (a_due, .inl (cI, 5, .inl f_due)), (a_times, .inl (cI, 5, .inl f_times)), (a_whoBore, .inl (cI, 5, .inl f_whoBore))]) rfl ?_
            refine ww_aload_n B dX8_nextDay_60 0 rfl ?_
            refine ww_get (ci := 8) (T := TX8) (C := RX8) (N := 24) B iX8 0 rfl rfl 14 (by decide) (by decide +kernel) rfl rfl dX8_nextDay_61 ?_
            refine ww_iload_n B dX8_nextDay_64 1 rfl ?_
            refine ww_dup2 B dX8_nextDay_65 rfl rfl ?_
            obtain ⟨i_66, h⟩ := og_i h
            refine ww_iald B 4 rfl i_66 dX8_nextDay_66 ?_
            refine ww_iconst B dX8_nextDay_67 (v := 1) (by decide) ?_
            refine ww_iadd B dX8_nextDay_68 ?_
            obtain ⟨i_69, h⟩ := og_i h
            refine ww_iast B 4 rfl i_69 dX8_nextDay_69 (ws' := [(a_t, .inr (8, [.ref b_may, .ref b_voyage, .ref b_lucky, .ref b_worths, .ref b_ranks, .int x_t_signs, .ref b_pad, .int x_t_day, .int x_t_reason, .ref a_bears, .ref a_due, .ref a_borneBy, .ref b_gone, .ref b_sunk, .ref a_times, .int x_t_asked, .ref a_whoBore, .ref b_gives, .ref b_best, .ref b_holds, .ref b_refused, .ref b_sums, .ref b_image, .ref b_isKept])), (a_bears, .inl (cI, 6, .inl (upd f_bears (Int32.toNatClampNeg (f_borneBy (Int32.toNatClampNeg v1))) (-6)))), (a_borneBy, .inl (cI, 5, .inl (upd f_borneBy (Int32.toNatClampNeg v1) (-6)))), (a_due, .inl (cI, 5, .inl f_due)), (a_times, .inl (cI, 5, .inl (upd f_times (Int32.toNatClampNeg v1) ((f_times (Int32.toNatClampNeg v1)) + 1)))), (a_whoBore, .inl (cI, 5, .inl f_whoBore))]) rfl ?_
            exact cut_70 _ _ _ _ _ _ h
  refine ww_aload_n B dX8_nextDay_0 0 rfl ?_
  refine ww_dup B dX8_nextDay_1 rfl ?_
  refine ww_get (ci := 8) (T := TX8) (C := RX8) (N := 24) B iX8 0 rfl rfl 7 (by decide) (by decide +kernel) rfl rfl dX8_nextDay_2 ?_
  refine ww_iconst B dX8_nextDay_5 (v := 1) (by decide) ?_
  refine ww_iadd B dX8_nextDay_6 ?_
  refine ww_topi (fun w_7 ew_7 => ?_)
  replace h := og_l ew_7 h
  refine ww_put (ci := 8) (T := TX8) (C := RX8) (N := 24) (ty := .int) B iX8 tyX8 tyX8_ok nmX8 0 rfl rfl 7 (by decide) (by decide +kernel) rfl rfl (by decide +kernel) rfl rfl (Nat.le_of_ble_eq_true rfl) dX8_nextDay_7 (ws' := [(a_t, .inr (8, [.ref b_may, .ref b_voyage, .ref b_lucky, .ref b_worths, .ref b_ranks, .int x_t_signs, .ref b_pad, .int w_7, .int x_t_reason, .ref a_bears, .ref a_due, .ref a_borneBy, .ref b_gone, .ref b_sunk, .ref a_times, .int x_t_asked, .ref a_whoBore, .ref b_gives, .ref b_best, .ref b_holds, .ref b_refused, .ref b_sums, .ref b_image, .ref b_isKept])), (a_bears, .inl (cI, 6, .inl f_bears)), (a_borneBy, .inl (cI, 5, .inl f_borneBy)), (a_due, .inl (cI, 5, .inl f_due)), (a_times, .inl (cI, 5, .inl f_times)), (a_whoBore, .inl (cI, 5, .inl f_whoBore))]) rfl ?_
  refine ww_iconst B dX8_nextDay_10 (v := 0) (by decide) ?_
  refine ww_istore_n B dX8_nextDay_11 (lv' := [(1, .int 0), (0, .ref a_t)]) (by decide) rfl ?_
  refine ww_lsel (lv' := [(0, .ref a_t), (1, .int 0)]) [1, 0] rfl ?_
  exact cut_12 _ _ _ _ _ _ _ h
noncomputable def m_X8_drown (f_bears : (Nat → Int32)) (f_borneBy : (Nat → Int32)) (f_gone : (Nat → Int32)) (f_sunk : (Nat → Int32)) (v1 : Int32) : Option ((Nat → Int32) × (Nat → Int32) × (Nat → Int32) × (Nat → Int32)) := ogi v1 5 (ogi v1 5 (if (f_borneBy (Int32.toNatClampNeg v1)) < 0 then (some (f_bears, f_borneBy, (upd f_gone (Int32.toNatClampNeg v1) (vp_nar .boolean 1)), f_sunk)) else (ogi v1 5 (ogi (f_borneBy (Int32.toNatClampNeg v1)) 6 (ogi v1 5 (ogi (f_borneBy (Int32.toNatClampNeg v1)) 6 (ogi v1 5 (some ((upd f_bears (Int32.toNatClampNeg (f_borneBy (Int32.toNatClampNeg v1))) (-6)), (upd f_borneBy (Int32.toNatClampNeg v1) (-6)), (upd f_gone (Int32.toNatClampNeg v1) (vp_nar .boolean 1)), (upd f_sunk (Int32.toNatClampNeg (f_borneBy (Int32.toNatClampNeg v1))) (vp_nar .boolean 1)))))))))))
set_option maxHeartbeats 4000000 in
set_option maxRecDepth 100000 in
theorem c_X8_drown (l : Launch) (D : va_G) (cI cZ : ClassId) (a_t a_bears a_borneBy a_gone a_sunk b_may b_voyage b_lucky b_worths b_ranks b_pad b_due b_times b_whoBore b_gives b_best b_holds b_refused b_sums b_image b_isKept : Nat) (f_bears : (Nat → Int32)) (f_borneBy : (Nat → Int32)) (f_gone : (Nat → Int32)) (f_sunk : (Nat → Int32)) (x_t_signs : Int32) (x_t_day : Int32) (x_t_reason : Int32) (x_t_asked : Int32) (v1 : Int32) {res : ((Nat → Int32) × (Nat → Int32) × (Nat → Int32) × (Nat → Int32))} (h : m_X8_drown f_bears f_borneBy f_gone f_sunk v1 = some res) : CT l yX8_drown wsX8_drown ({ frames := 0, cells := 0, slots := 0, locals := 0 } : Room) D cI cZ [.ref a_t, .int v1] [(a_t, .inr (8, [.ref b_may, .ref b_voyage, .ref b_lucky, .ref b_worths, .ref b_ranks, .int x_t_signs, .ref b_pad, .int x_t_day, .int x_t_reason, .ref a_bears, .ref b_due, .ref a_borneBy, .ref a_gone, .ref a_sunk, .ref b_times, .int x_t_asked, .ref b_whoBore, .ref b_gives, .ref b_best, .ref b_holds, .ref b_refused, .ref b_sums, .ref b_image, .ref b_isKept])), (a_bears, .inl (cI, 6, .inl f_bears)), (a_borneBy, .inl (cI, 5, .inl f_borneBy)), (a_gone, .inl (cZ, 5, .inl f_gone)), (a_sunk, .inl (cZ, 6, .inl f_sunk))] (QV D [(a_t, .inr (8, [.ref b_may, .ref b_voyage, .ref b_lucky, .ref b_worths, .ref b_ranks, .int x_t_signs, .ref b_pad, .int x_t_day, .int x_t_reason, .ref a_bears, .ref b_due, .ref a_borneBy, .ref a_gone, .ref a_sunk, .ref b_times, .int x_t_asked, .ref b_whoBore, .ref b_gives, .ref b_best, .ref b_holds, .ref b_refused, .ref b_sums, .ref b_image, .ref b_isKept])), (a_bears, .inl (cI, 6, .inl f_bears)), (a_borneBy, .inl (cI, 5, .inl f_borneBy)), (a_gone, .inl (cZ, 5, .inl f_gone)), (a_sunk, .inl (cZ, 6, .inl f_sunk))] (fun (u : (Nat → Int32) × (Nat → Int32) × (Nat → Int32) × (Nat → Int32)) => u = res) (fun (u : (Nat → Int32) × (Nat → Int32) × (Nat → Int32) × (Nat → Int32)) => [(a_t, .inr (8, [.ref b_may, .ref b_voyage, .ref b_lucky, .ref b_worths, .ref b_ranks, .int x_t_signs, .ref b_pad, .int x_t_day, .int x_t_reason, .ref a_bears, .ref b_due, .ref a_borneBy, .ref a_gone, .ref a_sunk, .ref b_times, .int x_t_asked, .ref b_whoBore, .ref b_gives, .ref b_best, .ref b_holds, .ref b_refused, .ref b_sums, .ref b_image, .ref b_isKept])), (a_bears, .inl (cI, 6, .inl u.1)), (a_borneBy, .inl (cI, 5, .inl u.2.1)), (a_gone, .inl (cZ, 5, .inl u.2.2.1)), (a_sunk, .inl (cZ, 6, .inl u.2.2.2))])) 0 0 := by
  have h : (ogi v1 5 (ogi v1 5 (if (f_borneBy (Int32.toNatClampNeg v1)) < 0 then (some (f_bears, f_borneBy, (upd f_gone (Int32.toNatClampNeg v1) (vp_nar .boolean 1)), f_sunk)) else (ogi v1 5 (ogi (f_borneBy (Int32.toNatClampNeg v1)) 6 (ogi v1 5 (ogi (f_borneBy (Int32.toNatClampNeg v1)) 6 (ogi v1 5 (some ((upd f_bears (Int32.toNatClampNeg (f_borneBy (Int32.toNatClampNeg v1))) (-6)), (upd f_borneBy (Int32.toNatClampNeg v1) (-6)), (upd f_gone (Int32.toNatClampNeg v1) (vp_nar .boolean 1)), (upd f_sunk (Int32.toNatClampNeg (f_borneBy (Int32.toNatClampNeg v1))) (vp_nar .boolean 1))))))))))) : Option ((Nat → Int32) × (Nat → Int32) × (Nat → Int32) × (Nat → Int32))) = some res := h
  refine ct_entry (cc := cX8_drown) (nl := 2) (ret := none) (own := RX8) (lv0 := [(0, .ref a_t), (1, .int v1)]) (by decide) rfl rfl (Nat.le_of_ble_eq_true rfl) rfl ?_
  intro p e s m args below meth c A Q hA hQ hr hnm B
  have iX8 : ∀ w ∈ wsX80, w ∈ wsX8_drown := by decide +kernel
  refine ww_aload_n B dX8_drown_0 0 rfl ?_
  refine ww_get (ci := 8) (T := TX8) (C := RX8) (N := 24) B iX8 0 rfl rfl 12 (by decide) (by decide +kernel) rfl rfl dX8_drown_1 ?_
  refine ww_iload_n B dX8_drown_4 1 rfl ?_
  refine ww_iconst B dX8_drown_5 (v := 1) (by decide) ?_
  obtain ⟨i_6, h⟩ := og_i h
  refine ww_zast B 3 rfl i_6 dX8_drown_6 (ws' := [(a_t, .inr (8, [.ref b_may, .ref b_voyage, .ref b_lucky, .ref b_worths, .ref b_ranks, .int x_t_signs, .ref b_pad, .int x_t_day, .int x_t_reason, .ref a_bears, .ref b_due, .ref a_borneBy, .ref a_gone, .ref a_sunk, .ref b_times, .int x_t_asked, .ref b_whoBore, .ref b_gives, .ref b_best, .ref b_holds, .ref b_refused, .ref b_sums, .ref b_image, .ref b_isKept])), (a_bears, .inl (cI, 6, .inl f_bears)), (a_borneBy, .inl (cI, 5, .inl f_borneBy)), (a_gone, .inl (cZ, 5, .inl (upd f_gone (Int32.toNatClampNeg v1) (vp_nar .boolean 1)))), (a_sunk, .inl (cZ, 6, .inl f_sunk))]) rfl ?_
  refine ww_aload_n B dX8_drown_7 0 rfl ?_
  refine ww_get (ci := 8) (T := TX8) (C := RX8) (N := 24) B iX8 0 rfl rfl 11 (by decide) (by decide +kernel) rfl rfl dX8_drown_8 ?_
  refine ww_iload_n B dX8_drown_11 1 rfl ?_
  obtain ⟨i_12, h⟩ := og_i h
  refine ww_iald B 2 rfl i_12 dX8_drown_12 ?_
  refine ww_if_lt B 49 dX8_drown_13 (by decide) (fun c_13 => ?_) (fun c_13 => ?_)
  · replace h := og_t c_13 h
    exact ww_vret B hA hQ hr dX8_drown_49 (f_bears, f_borneBy, (upd f_gone (Int32.toNatClampNeg v1) (vp_nar .boolean 1)), f_sunk) [0, 1, 2, 3, 4] rfl (by decide) (og_s h).symm
  · replace h := og_f c_13 h
    refine ww_aload_n B dX8_drown_16 0 rfl ?_
    refine ww_get (ci := 8) (T := TX8) (C := RX8) (N := 24) B iX8 0 rfl rfl 13 (by decide) (by decide +kernel) rfl rfl dX8_drown_17 ?_
    refine ww_aload_n B dX8_drown_20 0 rfl ?_
    refine ww_get (ci := 8) (T := TX8) (C := RX8) (N := 24) B iX8 0 rfl rfl 11 (by decide) (by decide +kernel) rfl rfl dX8_drown_21 ?_
    refine ww_iload_n B dX8_drown_24 1 rfl ?_
    obtain ⟨i_25, h⟩ := og_i h
    refine ww_iald B 2 rfl i_25 dX8_drown_25 ?_
    refine ww_iconst B dX8_drown_26 (v := 1) (by decide) ?_
    obtain ⟨i_27, h⟩ := og_i h
    refine ww_zast B 4 rfl i_27 dX8_drown_27 (ws' := [(a_t, .inr (8, [.ref b_may, .ref b_voyage, .ref b_lucky, .ref b_worths, .ref b_ranks, .int x_t_signs, .ref b_pad, .int x_t_day, .int x_t_reason, .ref a_bears, .ref b_due, .ref a_borneBy, .ref a_gone, .ref a_sunk, .ref b_times, .int x_t_asked, .ref b_whoBore, .ref b_gives, .ref b_best, .ref b_holds, .ref b_refused, .ref b_sums, .ref b_image, .ref b_isKept])), (a_bears, .inl (cI, 6, .inl f_bears)), (a_borneBy, .inl (cI, 5, .inl f_borneBy)), (a_gone, .inl (cZ, 5, .inl (upd f_gone (Int32.toNatClampNeg v1) (vp_nar .boolean 1)))), (a_sunk, .inl (cZ, 6, .inl (upd f_sunk (Int32.toNatClampNeg (f_borneBy (Int32.toNatClampNeg v1))) (vp_nar .boolean 1))))]) rfl ?_
    refine ww_aload_n B dX8_drown_28 0 rfl ?_
    refine ww_get (ci := 8) (T := TX8) (C := RX8) (N := 24) B iX8 0 rfl rfl 9 (by decide) (by decide +kernel) rfl rfl dX8_drown_29 ?_
    refine ww_aload_n B dX8_drown_32 0 rfl ?_
    refine ww_get (ci := 8) (T := TX8) (C := RX8) (N := 24) B iX8 0 rfl rfl 11 (by decide) (by decide +kernel) rfl rfl dX8_drown_33 ?_
    refine ww_iload_n B dX8_drown_36 1 rfl ?_
    obtain ⟨i_37, h⟩ := og_i h
    refine ww_iald B 2 rfl i_37 dX8_drown_37 ?_
    refine ww_bipush B dX8_drown_38 (v := (-6)) (by decide) ?_
    obtain ⟨i_40, h⟩ := og_i h
    refine ww_iast B 1 rfl i_40 dX8_drown_40 (ws' := [(a_t, .inr (8, [.ref b_may, .ref b_voyage, .ref b_lucky, .ref b_worths, .ref b_ranks, .int x_t_signs, .ref b_pad, .int x_t_day, .int x_t_reason, .ref a_bears, .ref b_due, .ref a_borneBy, .ref a_gone, .ref a_sunk, .ref b_times, .int x_t_asked, .ref b_whoBore, .ref b_gives, .ref b_best, .ref b_holds, .ref b_refused, .ref b_sums, .ref b_image, .ref b_isKept])), (a_bears, .inl (cI, 6, .inl (upd f_bears (Int32.toNatClampNeg (f_borneBy (Int32.toNatClampNeg v1))) (-6)))), (a_borneBy, .inl (cI, 5, .inl f_borneBy)), (a_gone, .inl (cZ, 5, .inl (upd f_gone (Int32.toNatClampNeg v1) (vp_nar .boolean 1)))), (a_sunk, .inl (cZ, 6, .inl (upd f_sunk (Int32.toNatClampNeg (f_borneBy (Int32.toNatClampNeg v1))) (vp_nar .boolean 1))))]) rfl ?_
    refine ww_aload_n B dX8_drown_41 0 rfl ?_
    refine ww_get (ci := 8) (T := TX8) (C := RX8) (N := 24) B iX8 0 rfl rfl 11 (by decide) (by decide +kernel) rfl rfl dX8_drown_42 ?_
    refine ww_iload_n B dX8_drown_45 1 rfl ?_
    refine ww_bipush B dX8_drown_46 (v := (-6)) (by decide) ?_
    obtain ⟨i_48, h⟩ := og_i h
    refine ww_iast B 2 rfl i_48 dX8_drown_48 (ws' := [(a_t, .inr (8, [.ref b_may, .ref b_voyage, .ref b_lucky, .ref b_worths, .ref b_ranks, .int x_t_signs, .ref b_pad, .int x_t_day, .int x_t_reason, .ref a_bears, .ref b_due, .ref a_borneBy, .ref a_gone, .ref a_sunk, .ref b_times, .int x_t_asked, .ref b_whoBore, .ref b_gives, .ref b_best, .ref b_holds, .ref b_refused, .ref b_sums, .ref b_image, .ref b_isKept])), (a_bears, .inl (cI, 6, .inl (upd f_bears (Int32.toNatClampNeg (f_borneBy (Int32.toNatClampNeg v1))) (-6)))), (a_borneBy, .inl (cI, 5, .inl (upd f_borneBy (Int32.toNatClampNeg v1) (-6)))), (a_gone, .inl (cZ, 5, .inl (upd f_gone (Int32.toNatClampNeg v1) (vp_nar .boolean 1)))), (a_sunk, .inl (cZ, 6, .inl (upd f_sunk (Int32.toNatClampNeg (f_borneBy (Int32.toNatClampNeg v1))) (vp_nar .boolean 1))))]) rfl ?_
    exact ww_vret B hA hQ hr dX8_drown_49 ((upd f_bears (Int32.toNatClampNeg (f_borneBy (Int32.toNatClampNeg v1))) (-6)), (upd f_borneBy (Int32.toNatClampNeg v1) (-6)), (upd f_gone (Int32.toNatClampNeg v1) (vp_nar .boolean 1)), (upd f_sunk (Int32.toNatClampNeg (f_borneBy (Int32.toNatClampNeg v1))) (vp_nar .boolean 1))) [0, 1, 2, 3, 4] rfl (by decide) (og_s h).symm
noncomputable def m_X8_has (v0 : Int32) (v1 : Int32) : Option Int32 := if (((v0 : Int32) >>> ((v1 : Int32) &&& 31)) &&& 1) = 1 then (some 1) else (some 0)
set_option maxHeartbeats 4000000 in
set_option maxRecDepth 100000 in
theorem c_X8_has (l : Launch) (D : va_G) (cI cZ : ClassId) (v0 : Int32) (v1 : Int32) {res : Int32} (h : m_X8_has v0 v1 = some res) : CT l yX8_has wsX8_has ({ frames := 0, cells := 0, slots := 0, locals := 0 } : Room) D cI cZ [.int v0, .int v1] [] (QI D [] (fun (r : Int32) (_ : Unit) => r = res) (fun (u : Unit) => [])) 0 0 := by
  have h : (if (((v0 : Int32) >>> ((v1 : Int32) &&& 31)) &&& 1) = 1 then (some 1) else (some 0) : Option Int32) = some res := h
  refine ct_entry (cc := cX8_has) (nl := 2) (ret := (some .boolean)) (own := RX8) (lv0 := [(0, .int v0), (1, .int v1)]) (by decide) rfl rfl (Nat.le_of_ble_eq_true rfl) rfl ?_
  intro p e s m args below meth c A Q hA hQ hr hnm B
  refine ww_iload_n B dX8_has_0 0 rfl ?_
  refine ww_iload_n B dX8_has_1 1 rfl ?_
  refine ww_ishr B dX8_has_2 ?_
  refine ww_iconst B dX8_has_3 (v := 1) (by decide) ?_
  refine ww_iand B dX8_has_4 ?_
  refine ww_iconst B dX8_has_5 (v := 1) (by decide) ?_
  refine ww_icmp_ne B 13 dX8_has_6 (by decide) (fun c_6 => ?_) (fun c_6 => ?_)
  · replace h := og_f c_6 h
    refine ww_iconst B dX8_has_13 (v := 0) (by decide) ?_
    exact ww_zret B hA hQ hr (Or.inl rfl) dX8_has_14 () [] rfl (by decide) (og_s h).symm
  · replace h := og_t c_6 h
    refine ww_iconst B dX8_has_9 (v := 1) (by decide) ?_
    refine ww_goto B 14 dX8_has_10 (by decide) ?_
    exact ww_zret B hA hQ hr (Or.inr rfl) dX8_has_14 () [] rfl (by decide) (og_s h).symm
noncomputable def m_X8_whyNot (f_bears : (Nat → Int32)) (f_borneBy : (Nat → Int32)) (f_gone : (Nat → Int32)) (f_may : (Nat → Int32)) (f_sunk : (Nat → Int32)) (v1 : Int32) (v2 : Int32) : Option Int32 := ogi v1 6 (if (f_sunk (Int32.toNatClampNeg v1)) = 0 then (ogi v1 6 (if (f_bears (Int32.toNatClampNeg v1)) < 0 then (ogi v2 5 (if (f_gone (Int32.toNatClampNeg v2)) = 0 then (ogi v2 5 (if (f_borneBy (Int32.toNatClampNeg v2)) < 0 then (ogi v1 6 (ogb (m_X8_has (f_may (Int32.toNatClampNeg v1)) v2) (fun q_53 => if q_53 = 0 then (some 5) else (some 0)))) else (some 4))) else (some 3))) else (some 2))) else (some 1))
set_option maxHeartbeats 4000000 in
set_option maxRecDepth 100000 in
theorem c_X8_whyNot (l : Launch) (D : va_G) (cI cZ : ClassId) (a_t a_bears a_borneBy a_gone a_may a_sunk b_voyage b_lucky b_worths b_ranks b_pad b_due b_times b_whoBore b_gives b_best b_holds b_refused b_sums b_image b_isKept : Nat) (f_bears : (Nat → Int32)) (f_borneBy : (Nat → Int32)) (f_gone : (Nat → Int32)) (f_may : (Nat → Int32)) (f_sunk : (Nat → Int32)) (x_t_signs : Int32) (x_t_day : Int32) (x_t_reason : Int32) (x_t_asked : Int32) (v1 : Int32) (v2 : Int32) {res : Int32} (h : m_X8_whyNot f_bears f_borneBy f_gone f_may f_sunk v1 v2 = some res) : CT l yX8_whyNot wsX8_whyNot ({ frames := 1, cells := 0, slots := 0, locals := 21 } : Room) D cI cZ [.ref a_t, .int v1, .int v2] [(a_t, .inr (8, [.ref a_may, .ref b_voyage, .ref b_lucky, .ref b_worths, .ref b_ranks, .int x_t_signs, .ref b_pad, .int x_t_day, .int x_t_reason, .ref a_bears, .ref b_due, .ref a_borneBy, .ref a_gone, .ref a_sunk, .ref b_times, .int x_t_asked, .ref b_whoBore, .ref b_gives, .ref b_best, .ref b_holds, .ref b_refused, .ref b_sums, .ref b_image, .ref b_isKept])), (a_bears, .inl (cI, 6, .inl f_bears)), (a_borneBy, .inl (cI, 5, .inl f_borneBy)), (a_gone, .inl (cZ, 5, .inl f_gone)), (a_may, .inl (cI, 6, .inl f_may)), (a_sunk, .inl (cZ, 6, .inl f_sunk))] (QI D [(a_t, .inr (8, [.ref a_may, .ref b_voyage, .ref b_lucky, .ref b_worths, .ref b_ranks, .int x_t_signs, .ref b_pad, .int x_t_day, .int x_t_reason, .ref a_bears, .ref b_due, .ref a_borneBy, .ref a_gone, .ref a_sunk, .ref b_times, .int x_t_asked, .ref b_whoBore, .ref b_gives, .ref b_best, .ref b_holds, .ref b_refused, .ref b_sums, .ref b_image, .ref b_isKept])), (a_bears, .inl (cI, 6, .inl f_bears)), (a_borneBy, .inl (cI, 5, .inl f_borneBy)), (a_gone, .inl (cZ, 5, .inl f_gone)), (a_may, .inl (cI, 6, .inl f_may)), (a_sunk, .inl (cZ, 6, .inl f_sunk))] (fun (r : Int32) (_ : Unit) => r = res) (fun (u : Unit) => [(a_t, .inr (8, [.ref a_may, .ref b_voyage, .ref b_lucky, .ref b_worths, .ref b_ranks, .int x_t_signs, .ref b_pad, .int x_t_day, .int x_t_reason, .ref a_bears, .ref b_due, .ref a_borneBy, .ref a_gone, .ref a_sunk, .ref b_times, .int x_t_asked, .ref b_whoBore, .ref b_gives, .ref b_best, .ref b_holds, .ref b_refused, .ref b_sums, .ref b_image, .ref b_isKept])), (a_bears, .inl (cI, 6, .inl f_bears)), (a_borneBy, .inl (cI, 5, .inl f_borneBy)), (a_gone, .inl (cZ, 5, .inl f_gone)), (a_may, .inl (cI, 6, .inl f_may)), (a_sunk, .inl (cZ, 6, .inl f_sunk))])) 0 0 := by
  have h : (ogi v1 6 (if (f_sunk (Int32.toNatClampNeg v1)) = 0 then (ogi v1 6 (if (f_bears (Int32.toNatClampNeg v1)) < 0 then (ogi v2 5 (if (f_gone (Int32.toNatClampNeg v2)) = 0 then (ogi v2 5 (if (f_borneBy (Int32.toNatClampNeg v2)) < 0 then (ogi v1 6 (ogb (m_X8_has (f_may (Int32.toNatClampNeg v1)) v2) (fun q_53 => if q_53 = 0 then (some 5) else (some 0)))) else (some 4))) else (some 3))) else (some 2))) else (some 1)) : Option Int32) = some res := h
  refine ct_entry (cc := cX8_whyNot) (nl := 3) (ret := (some .int)) (own := RX8) (lv0 := [(0, .ref a_t), (1, .int v1), (2, .int v2)]) (by decide) rfl rfl (Nat.le_of_ble_eq_true rfl) rfl ?_
  intro p e s m args below meth c A Q hA hQ hr hnm B
  have iX8 : ∀ w ∈ wsX80, w ∈ wsX8_whyNot := by decide +kernel
  refine ww_aload_n B dX8_whyNot_0 0 rfl ?_
  refine ww_get (ci := 8) (T := TX8) (C := RX8) (N := 24) B iX8 0 rfl rfl 13 (by decide) (by decide +kernel) rfl rfl dX8_whyNot_1 ?_
  refine ww_iload_n B dX8_whyNot_4 1 rfl ?_
  obtain ⟨i_5, h⟩ := og_i h
  refine ww_zald B 5 rfl i_5 dX8_whyNot_5 ?_
  refine ww_if_eq B 11 dX8_whyNot_6 (by decide) (fun c_6 => ?_) (fun c_6 => ?_)
  · replace h := og_t c_6 h
    refine ww_aload_n B dX8_whyNot_11 0 rfl ?_
    refine ww_get (ci := 8) (T := TX8) (C := RX8) (N := 24) B iX8 0 rfl rfl 9 (by decide) (by decide +kernel) rfl rfl dX8_whyNot_12 ?_
    refine ww_iload_n B dX8_whyNot_15 1 rfl ?_
    obtain ⟨i_16, h⟩ := og_i h
    refine ww_iald B 1 rfl i_16 dX8_whyNot_16 ?_
    refine ww_if_lt B 22 dX8_whyNot_17 (by decide) (fun c_17 => ?_) (fun c_17 => ?_)
    · replace h := og_t c_17 h
      refine ww_aload_n B dX8_whyNot_22 0 rfl ?_
      refine ww_get (ci := 8) (T := TX8) (C := RX8) (N := 24) B iX8 0 rfl rfl 12 (by decide) (by decide +kernel) rfl rfl dX8_whyNot_23 ?_
      refine ww_iload_n B dX8_whyNot_26 2 rfl ?_
      obtain ⟨i_27, h⟩ := og_i h
      refine ww_zald B 3 rfl i_27 dX8_whyNot_27 ?_
      refine ww_if_eq B 33 dX8_whyNot_28 (by decide) (fun c_28 => ?_) (fun c_28 => ?_)
      · replace h := og_t c_28 h
        refine ww_aload_n B dX8_whyNot_33 0 rfl ?_
        refine ww_get (ci := 8) (T := TX8) (C := RX8) (N := 24) B iX8 0 rfl rfl 11 (by decide) (by decide +kernel) rfl rfl dX8_whyNot_34 ?_
        refine ww_iload_n B dX8_whyNot_37 2 rfl ?_
        obtain ⟨i_38, h⟩ := og_i h
        refine ww_iald B 2 rfl i_38 dX8_whyNot_38 ?_
        refine ww_if_lt B 46 dX8_whyNot_39 (by decide) (fun c_39 => ?_) (fun c_39 => ?_)
        · replace h := og_t c_39 h
          refine ww_aload_n B dX8_whyNot_46 0 rfl ?_
          refine ww_get (ci := 8) (T := TX8) (C := RX8) (N := 24) B iX8 0 rfl rfl 0 (by decide) (by decide +kernel) rfl rfl dX8_whyNot_47 ?_
          refine ww_iload_n B dX8_whyNot_50 1 rfl ?_
          obtain ⟨i_51, h⟩ := og_i h
          refine ww_iald B 4 rfl i_51 dX8_whyNot_51 ?_
          refine ww_iload_n B dX8_whyNot_52 2 rfl ?_
          obtain ⟨q_53, hq_53, h⟩ := og_b h
          refine ww_ci0 B (k' := 0) (n' := 0) rfl rfl [] [0, 1, 2, 3, 4, 5] (wr := [(a_t, .inr (8, [.ref a_may, .ref b_voyage, .ref b_lucky, .ref b_worths, .ref b_ranks, .int x_t_signs, .ref b_pad, .int x_t_day, .int x_t_reason, .ref a_bears, .ref b_due, .ref a_borneBy, .ref a_gone, .ref a_sunk, .ref b_times, .int x_t_asked, .ref b_whoBore, .ref b_gives, .ref b_best, .ref b_holds, .ref b_refused, .ref b_sums, .ref b_image, .ref b_isKept])), (a_bears, .inl (cI, 6, .inl f_bears)), (a_borneBy, .inl (cI, 5, .inl f_borneBy)), (a_gone, .inl (cZ, 5, .inl f_gone)), (a_may, .inl (cI, 6, .inl f_may)), (a_sunk, .inl (cZ, 6, .inl f_sunk))]) (st := []) rfl rfl (by decide) (rr_S B (c_X8_has l D cI cZ (f_may (Int32.toNatClampNeg v1)) v2 hq_53) gX8_whyNot_X8_has rfl rfl rfl (N := 2) rfl (by decide +kernel) ⟨Nat.le_of_ble_eq_true rfl, Nat.le_of_ble_eq_true rfl⟩ rfl dX8_whyNot_53 (Nat.le_of_ble_eq_true rfl) ⟨Nat.le_of_ble_eq_true rfl, Nat.le_of_ble_eq_true rfl⟩) (ws' := [(a_t, .inr (8, [.ref a_may, .ref b_voyage, .ref b_lucky, .ref b_worths, .ref b_ranks, .int x_t_signs, .ref b_pad, .int x_t_day, .int x_t_reason, .ref a_bears, .ref b_due, .ref a_borneBy, .ref a_gone, .ref a_sunk, .ref b_times, .int x_t_asked, .ref b_whoBore, .ref b_gives, .ref b_best, .ref b_holds, .ref b_refused, .ref b_sums, .ref b_image, .ref b_isKept])), (a_bears, .inl (cI, 6, .inl f_bears)), (a_borneBy, .inl (cI, 5, .inl f_borneBy)), (a_gone, .inl (cZ, 5, .inl f_gone)), (a_may, .inl (cI, 6, .inl f_may)), (a_sunk, .inl (cZ, 6, .inl f_sunk))]) rfl ?_
          refine ww_if_eq B 63 dX8_whyNot_56 (by decide) (fun c_56 => ?_) (fun c_56 => ?_)
          · replace h := og_t c_56 h
            refine ww_iconst B dX8_whyNot_63 (v := 5) (by decide) ?_
            exact ww_iret B hA hQ hr dX8_whyNot_64 () [0, 1, 2, 3, 4, 5] rfl (by decide) (og_s h).symm
          · replace h := og_f c_56 h
            refine ww_iconst B dX8_whyNot_59 (v := 0) (by decide) ?_
            refine ww_goto B 64 dX8_whyNot_60 (by decide) ?_
            exact ww_iret B hA hQ hr dX8_whyNot_64 () [0, 1, 2, 3, 4, 5] rfl (by decide) (og_s h).symm
        · replace h := og_f c_39 h
          refine ww_iconst B dX8_whyNot_42 (v := 4) (by decide) ?_
          refine ww_goto B 64 dX8_whyNot_43 (by decide) ?_
          exact ww_iret B hA hQ hr dX8_whyNot_64 () [0, 1, 2, 3, 4, 5] rfl (by decide) (og_s h).symm
      · replace h := og_f c_28 h
        refine ww_iconst B dX8_whyNot_31 (v := 3) (by decide) ?_
        exact ww_iret B hA hQ hr dX8_whyNot_32 () [0, 1, 2, 3, 4, 5] rfl (by decide) (og_s h).symm
    · replace h := og_f c_17 h
      refine ww_iconst B dX8_whyNot_20 (v := 2) (by decide) ?_
      exact ww_iret B hA hQ hr dX8_whyNot_21 () [0, 1, 2, 3, 4, 5] rfl (by decide) (og_s h).symm
  · replace h := og_f c_6 h
    refine ww_iconst B dX8_whyNot_9 (v := 1) (by decide) ?_
    exact ww_iret B hA hQ hr dX8_whyNot_10 () [0, 1, 2, 3, 4, 5] rfl (by decide) (og_s h).symm
noncomputable def m_X8_goLog_267 (k32 : Int32 → Int32 → Int32 → Int32 → (Nat → Int32) → (Nat → Int32) → (Nat → Int32) → (Nat → Int32) → (Nat → Int32) → (Nat → Int32) → (Nat → Int32) → Int32 → Int32 → Option (Int32 × ((Nat → Int32) × (Nat → Int32) × (Nat → Int32) × (Nat → Int32) × (Nat → Int32) × (Nat → Int32) × (Nat → Int32) × Int32 × Int32))) (f_may : (Nat → Int32)) (f_pad : (Nat → Int32)) (x_t_signs : Int32) (x_t_asked : Int32) (v1 : Int32) (v2 : Int32) (v3 : Int32) (v4 : Int32) (f_bears : (Nat → Int32)) (f_borneBy : (Nat → Int32)) (f_due : (Nat → Int32)) (f_gone : (Nat → Int32)) (f_sunk : (Nat → Int32)) (f_times : (Nat → Int32)) (f_whoBore : (Nat → Int32)) (x_t_day : Int32) (x_t_reason : Int32) : Option (Int32 × ((Nat → Int32) × (Nat → Int32) × (Nat → Int32) × (Nat → Int32) × (Nat → Int32) × (Nat → Int32) × (Nat → Int32) × Int32 × Int32)) := ogl (v4 + 1) (fun (v4_267 : Int32) => (k32 v1 v2 v3 v4_267 f_bears f_borneBy f_due f_gone f_sunk f_times f_whoBore x_t_day x_t_reason))
noncomputable def m_X8_goLog_183 (k32 : Int32 → Int32 → Int32 → Int32 → (Nat → Int32) → (Nat → Int32) → (Nat → Int32) → (Nat → Int32) → (Nat → Int32) → (Nat → Int32) → (Nat → Int32) → Int32 → Int32 → Option (Int32 × ((Nat → Int32) × (Nat → Int32) × (Nat → Int32) × (Nat → Int32) × (Nat → Int32) × (Nat → Int32) × (Nat → Int32) × Int32 × Int32))) (f_may : (Nat → Int32)) (f_pad : (Nat → Int32)) (x_t_signs : Int32) (x_t_asked : Int32) (v1 : Int32) (v3 : Int32) (v4 : Int32) (v6 : Int32) (s0 : Int32) (f_bears : (Nat → Int32)) (f_borneBy : (Nat → Int32)) (f_due : (Nat → Int32)) (f_gone : (Nat → Int32)) (f_sunk : (Nat → Int32)) (f_times : (Nat → Int32)) (f_whoBore : (Nat → Int32)) (x_t_day : Int32) (x_t_reason : Int32) : Option (Int32 × ((Nat → Int32) × (Nat → Int32) × (Nat → Int32) × (Nat → Int32) × (Nat → Int32) × (Nat → Int32) × (Nat → Int32) × Int32 × Int32)) := ogi (v3 + 1) 48 (ogl ((f_pad (Int32.toNatClampNeg (v3 + 1))) - 97) (fun (v7_195 : Int32) => ogb (m_X8_whyNot f_bears f_borneBy f_gone f_may f_sunk v6 v7_195) (fun q_203 => if q_203 ≤ 0 then (ogi v6 6 (ogi v7_195 5 (ogi (v3 + 2) 48 (ogi v7_195 5 (ogb (m_X8_keepWho (upd f_borneBy (Int32.toNatClampNeg v7_195) v6) x_t_day x_t_asked f_whoBore) (fun q_261 => ogl (v3 + 3) (fun (v3_264 : Int32) => (m_X8_goLog_267 k32 f_may f_pad x_t_signs x_t_asked v1 s0 v3_264 v4 (upd f_bears (Int32.toNatClampNeg v6) v7_195) (upd f_borneBy (Int32.toNatClampNeg v7_195) v6) (upd f_due (Int32.toNatClampNeg v7_195) ((x_t_day + (f_pad (Int32.toNatClampNeg (v3 + 2)))) - 48)) f_gone f_sunk f_times q_261 x_t_day q_203)))))))) else (some (v4, (f_bears, f_borneBy, f_due, f_gone, f_sunk, f_times, f_whoBore, x_t_day, q_203))))))
noncomputable def m_X8_goLog_182 (k32 : Int32 → Int32 → Int32 → Int32 → (Nat → Int32) → (Nat → Int32) → (Nat → Int32) → (Nat → Int32) → (Nat → Int32) → (Nat → Int32) → (Nat → Int32) → Int32 → Int32 → Option (Int32 × ((Nat → Int32) × (Nat → Int32) × (Nat → Int32) × (Nat → Int32) × (Nat → Int32) × (Nat → Int32) × (Nat → Int32) × Int32 × Int32))) (f_may : (Nat → Int32)) (f_pad : (Nat → Int32)) (x_t_signs : Int32) (x_t_asked : Int32) (v1 : Int32) (v2 : Int32) (v3 : Int32) (v4 : Int32) (v6 : Int32) (f_bears : (Nat → Int32)) (f_borneBy : (Nat → Int32)) (f_due : (Nat → Int32)) (f_gone : (Nat → Int32)) (f_sunk : (Nat → Int32)) (f_times : (Nat → Int32)) (f_whoBore : (Nat → Int32)) (x_t_day : Int32) (x_t_reason : Int32) : Option (Int32 × ((Nat → Int32) × (Nat → Int32) × (Nat → Int32) × (Nat → Int32) × (Nat → Int32) × (Nat → Int32) × (Nat → Int32) × Int32 × Int32)) := (m_X8_goLog_183 k32 f_may f_pad x_t_signs x_t_asked v1 v3 v4 v6 v2 f_bears f_borneBy f_due f_gone f_sunk f_times f_whoBore x_t_day x_t_reason)
noncomputable def m_X8_goLog_161 (k32 : Int32 → Int32 → Int32 → Int32 → (Nat → Int32) → (Nat → Int32) → (Nat → Int32) → (Nat → Int32) → (Nat → Int32) → (Nat → Int32) → (Nat → Int32) → Int32 → Int32 → Option (Int32 × ((Nat → Int32) × (Nat → Int32) × (Nat → Int32) × (Nat → Int32) × (Nat → Int32) × (Nat → Int32) × (Nat → Int32) × Int32 × Int32))) (f_may : (Nat → Int32)) (f_pad : (Nat → Int32)) (x_t_signs : Int32) (x_t_asked : Int32) (v1 : Int32) (v2 : Int32) (v3 : Int32) (v4 : Int32) (v5 : Int32) (s0 : Int32) (f_bears : (Nat → Int32)) (f_borneBy : (Nat → Int32)) (f_due : (Nat → Int32)) (f_gone : (Nat → Int32)) (f_sunk : (Nat → Int32)) (f_times : (Nat → Int32)) (f_whoBore : (Nat → Int32)) (x_t_day : Int32) (x_t_reason : Int32) : Option (Int32 × ((Nat → Int32) × (Nat → Int32) × (Nat → Int32) × (Nat → Int32) × (Nat → Int32) × (Nat → Int32) × (Nat → Int32) × Int32 × Int32)) := if v5 = 63 then (if v2 ≤ 1 then ((m_X8_goLog_182 k32 f_may f_pad x_t_signs x_t_asked v1 v2 v3 v4 s0 f_bears f_borneBy f_due f_gone f_sunk f_times f_whoBore x_t_day x_t_reason)) else ((m_X8_goLog_183 k32 f_may f_pad x_t_signs x_t_asked v1 v3 v4 s0 (v2 / 6) f_bears f_borneBy f_due f_gone f_sunk f_times f_whoBore x_t_day x_t_reason))) else ((m_X8_goLog_182 k32 f_may f_pad x_t_signs x_t_asked v1 v2 v3 v4 s0 f_bears f_borneBy f_due f_gone f_sunk f_times f_whoBore x_t_day x_t_reason))
noncomputable def m_X8_goLog_115 (k32 : Int32 → Int32 → Int32 → Int32 → (Nat → Int32) → (Nat → Int32) → (Nat → Int32) → (Nat → Int32) → (Nat → Int32) → (Nat → Int32) → (Nat → Int32) → Int32 → Int32 → Option (Int32 × ((Nat → Int32) × (Nat → Int32) × (Nat → Int32) × (Nat → Int32) × (Nat → Int32) × (Nat → Int32) × (Nat → Int32) × Int32 × Int32))) (f_may : (Nat → Int32)) (f_pad : (Nat → Int32)) (x_t_signs : Int32) (x_t_asked : Int32) (v1 : Int32) (v2 : Int32) (v3 : Int32) (v4 : Int32) (v6 : Int32) (s1 : Int32) (f_bears : (Nat → Int32)) (f_borneBy : (Nat → Int32)) (f_due : (Nat → Int32)) (f_gone : (Nat → Int32)) (f_sunk : (Nat → Int32)) (f_times : (Nat → Int32)) (f_whoBore : (Nat → Int32)) (x_t_day : Int32) (x_t_reason : Int32) : Option (Int32 × ((Nat → Int32) × (Nat → Int32) × (Nat → Int32) × (Nat → Int32) × (Nat → Int32) × (Nat → Int32) × (Nat → Int32) × Int32 × Int32)) := if s1 ≤ 0 then (ogb (m_X8_drown f_bears f_borneBy f_gone f_sunk v6) (fun q_131 => ogl (v3 + 2) (fun (v3_134 : Int32) => (m_X8_goLog_267 k32 f_may f_pad x_t_signs x_t_asked v1 v2 v3_134 v4 q_131.1 q_131.2.1 f_due q_131.2.2.1 q_131.2.2.2 f_times f_whoBore x_t_day s1)))) else (some (v4, (f_bears, f_borneBy, f_due, f_gone, f_sunk, f_times, f_whoBore, x_t_day, s1)))
noncomputable def m_X8_goLog_32b (k32 : Int32 → Int32 → Int32 → Int32 → (Nat → Int32) → (Nat → Int32) → (Nat → Int32) → (Nat → Int32) → (Nat → Int32) → (Nat → Int32) → (Nat → Int32) → Int32 → Int32 → Option (Int32 × ((Nat → Int32) × (Nat → Int32) × (Nat → Int32) × (Nat → Int32) × (Nat → Int32) × (Nat → Int32) × (Nat → Int32) × Int32 × Int32))) (f_may : (Nat → Int32)) (f_pad : (Nat → Int32)) (x_t_signs : Int32) (x_t_asked : Int32) (v1 : Int32) (v2 : Int32) (v3 : Int32) (v4 : Int32) (f_bears : (Nat → Int32)) (f_borneBy : (Nat → Int32)) (f_due : (Nat → Int32)) (f_gone : (Nat → Int32)) (f_sunk : (Nat → Int32)) (f_times : (Nat → Int32)) (f_whoBore : (Nat → Int32)) (x_t_day : Int32) (x_t_reason : Int32) : Option (Int32 × ((Nat → Int32) × (Nat → Int32) × (Nat → Int32) × (Nat → Int32) × (Nat → Int32) × (Nat → Int32) × (Nat → Int32) × Int32 × Int32)) := if x_t_signs ≤ v3 then (some ((-6), (f_bears, f_borneBy, f_due, f_gone, f_sunk, f_times, f_whoBore, x_t_day, x_t_reason))) else (ogi v3 48 (ogl (f_pad (Int32.toNatClampNeg v3)) (fun (v5_46 : Int32) => if v5_46 = 46 then (ogb (m_X8_nextDay f_due x_t_asked f_bears f_borneBy f_times f_whoBore x_t_day) (fun q_56 => ogl (v3 + 1) (fun (v3_59 : Int32) => (m_X8_goLog_267 k32 f_may f_pad x_t_signs x_t_asked v1 v2 v3_59 v4 q_56.1 q_56.2.1 f_due f_gone f_sunk q_56.2.2.1 q_56.2.2.2.1 q_56.2.2.2.2 x_t_reason)))) else (if v5_46 = 33 then (ogi (v3 + 1) 48 (ogl ((f_pad (Int32.toNatClampNeg (v3 + 1))) - 97) (fun (v6_83 : Int32) => ogi v6_83 5 (if (f_gone (Int32.toNatClampNeg v6_83)) = 0 then (ogi v6_83 5 (if 0 ≤ (f_borneBy (Int32.toNatClampNeg v6_83)) then ((m_X8_goLog_115 k32 f_may f_pad x_t_signs x_t_asked v1 v2 v3 v4 v6_83 0 f_bears f_borneBy f_due f_gone f_sunk f_times f_whoBore x_t_day x_t_reason)) else ((m_X8_goLog_115 k32 f_may f_pad x_t_signs x_t_asked v1 v2 v3 v4 v6_83 4 f_bears f_borneBy f_due f_gone f_sunk f_times f_whoBore x_t_day x_t_reason)))) else ((m_X8_goLog_115 k32 f_may f_pad x_t_signs x_t_asked v1 v2 v3 v4 v6_83 3 f_bears f_borneBy f_due f_gone f_sunk f_times f_whoBore x_t_day x_t_reason)))))) else (if v5_46 = 63 then (ogn (v2 = 0) ((m_X8_goLog_161 k32 f_may f_pad x_t_signs x_t_asked v1 v2 v3 v4 v5_46 ((v1 / v2) - (v1 / v2) / 6 * 6) f_bears f_borneBy f_due f_gone f_sunk f_times f_whoBore x_t_day x_t_reason))) else ((m_X8_goLog_161 k32 f_may f_pad x_t_signs x_t_asked v1 v2 v3 v4 v5_46 (v5_46 - 65) f_bears f_borneBy f_due f_gone f_sunk f_times f_whoBore x_t_day x_t_reason)))))))
noncomputable def m_X8_goLog_32 (f_may : (Nat → Int32)) (f_pad : (Nat → Int32)) (x_t_signs : Int32) (x_t_asked : Int32) (fuel : Nat) : Int32 → Int32 → Int32 → Int32 → (Nat → Int32) → (Nat → Int32) → (Nat → Int32) → (Nat → Int32) → (Nat → Int32) → (Nat → Int32) → (Nat → Int32) → Int32 → Int32 → Option (Int32 × ((Nat → Int32) × (Nat → Int32) × (Nat → Int32) × (Nat → Int32) × (Nat → Int32) × (Nat → Int32) × (Nat → Int32) × Int32 × Int32)) := Nat.rec (fun _ _ _ _ _ _ _ _ _ _ _ _ _ => none) (fun _ k32 => m_X8_goLog_32b k32 f_may f_pad x_t_signs x_t_asked) fuel
noncomputable def m_X8_goLog_8b (k8 : Int32 → Int32 → Int32 → (Nat → Int32) → (Nat → Int32) → (Nat → Int32) → (Nat → Int32) → (Nat → Int32) → (Nat → Int32) → (Nat → Int32) → Int32 → Int32 → Option (Int32 × ((Nat → Int32) × (Nat → Int32) × (Nat → Int32) × (Nat → Int32) × (Nat → Int32) × (Nat → Int32) × (Nat → Int32) × Int32 × Int32))) (f_may : (Nat → Int32)) (f_pad : (Nat → Int32)) (x_t_signs : Int32) (x_t_asked : Int32) (v1 : Int32) (v2 : Int32) (v3 : Int32) (f_bears : (Nat → Int32)) (f_borneBy : (Nat → Int32)) (f_due : (Nat → Int32)) (f_gone : (Nat → Int32)) (f_sunk : (Nat → Int32)) (f_times : (Nat → Int32)) (f_whoBore : (Nat → Int32)) (x_t_day : Int32) (x_t_reason : Int32) : Option (Int32 × ((Nat → Int32) × (Nat → Int32) × (Nat → Int32) × (Nat → Int32) × (Nat → Int32) × (Nat → Int32) × (Nat → Int32) × Int32 × Int32)) := ogb (m_X8_opens f_pad x_t_signs) (fun q_10 => if q_10 ≤ v3 then ((m_X8_goLog_32 f_may f_pad x_t_signs x_t_asked 1000000 v1 v2 0 0 f_bears f_borneBy f_due f_gone f_sunk f_times f_whoBore x_t_day x_t_reason)) else (ogl (v2 * 6) (fun (v2_20 : Int32) => ogl (v3 + 1) (fun (v3_21 : Int32) => (k8 v1 v2_20 v3_21 f_bears f_borneBy f_due f_gone f_sunk f_times f_whoBore x_t_day x_t_reason)))))
noncomputable def m_X8_goLog_8 (f_may : (Nat → Int32)) (f_pad : (Nat → Int32)) (x_t_signs : Int32) (x_t_asked : Int32) (fuel : Nat) : Int32 → Int32 → Int32 → (Nat → Int32) → (Nat → Int32) → (Nat → Int32) → (Nat → Int32) → (Nat → Int32) → (Nat → Int32) → (Nat → Int32) → Int32 → Int32 → Option (Int32 × ((Nat → Int32) × (Nat → Int32) × (Nat → Int32) × (Nat → Int32) × (Nat → Int32) × (Nat → Int32) × (Nat → Int32) × Int32 × Int32)) := Nat.rec (fun _ _ _ _ _ _ _ _ _ _ _ _ => none) (fun _ k8 => m_X8_goLog_8b k8 f_may f_pad x_t_signs x_t_asked) fuel
noncomputable def m_X8_goLog (f_may : (Nat → Int32)) (f_pad : (Nat → Int32)) (x_t_signs : Int32) (x_t_asked : Int32) (f_bears : (Nat → Int32)) (f_borneBy : (Nat → Int32)) (f_due : (Nat → Int32)) (f_gone : (Nat → Int32)) (f_sunk : (Nat → Int32)) (f_times : (Nat → Int32)) (f_whoBore : (Nat → Int32)) (x_t_day : Int32) (x_t_reason : Int32) (v1 : Int32) : Option (Int32 × ((Nat → Int32) × (Nat → Int32) × (Nat → Int32) × (Nat → Int32) × (Nat → Int32) × (Nat → Int32) × (Nat → Int32) × Int32 × Int32)) := ogb (m_X8_beginLog f_bears f_borneBy f_due f_gone f_sunk f_times f_whoBore x_t_day x_t_reason) (fun q_1 => (m_X8_goLog_8 f_may f_pad x_t_signs x_t_asked 1000000 v1 1 1 q_1.1 q_1.2.1 q_1.2.2.1 q_1.2.2.2.1 q_1.2.2.2.2.1 q_1.2.2.2.2.2.1 q_1.2.2.2.2.2.2.1 q_1.2.2.2.2.2.2.2.1 q_1.2.2.2.2.2.2.2.2))
set_option maxHeartbeats 4000000 in
set_option maxRecDepth 100000 in
theorem c_X8_goLog (l : Launch) (D : va_G) (cI cZ : ClassId) (a_t a_bears a_borneBy a_due a_gone a_may a_pad a_sunk a_times a_whoBore b_voyage b_lucky b_worths b_ranks b_gives b_best b_holds b_refused b_sums b_image b_isKept : Nat) (f_bears : (Nat → Int32)) (f_borneBy : (Nat → Int32)) (f_due : (Nat → Int32)) (f_gone : (Nat → Int32)) (f_may : (Nat → Int32)) (f_pad : (Nat → Int32)) (f_sunk : (Nat → Int32)) (f_times : (Nat → Int32)) (f_whoBore : (Nat → Int32)) (x_t_signs : Int32) (x_t_day : Int32) (x_t_reason : Int32) (x_t_asked : Int32) (v1 : Int32) {res : (Int32 × ((Nat → Int32) × (Nat → Int32) × (Nat → Int32) × (Nat → Int32) × (Nat → Int32) × (Nat → Int32) × (Nat → Int32) × Int32 × Int32))} (h : m_X8_goLog f_may f_pad x_t_signs x_t_asked f_bears f_borneBy f_due f_gone f_sunk f_times f_whoBore x_t_day x_t_reason v1 = some res) : CT l yX8_goLog wsX8_goLog ({ frames := 2, cells := 0, slots := 0, locals := 43 } : Room) D cI cZ [.ref a_t, .int v1] [(a_t, .inr (8, [.ref a_may, .ref b_voyage, .ref b_lucky, .ref b_worths, .ref b_ranks, .int x_t_signs, .ref a_pad, .int x_t_day, .int x_t_reason, .ref a_bears, .ref a_due, .ref a_borneBy, .ref a_gone, .ref a_sunk, .ref a_times, .int x_t_asked, .ref a_whoBore, .ref b_gives, .ref b_best, .ref b_holds, .ref b_refused, .ref b_sums, .ref b_image, .ref b_isKept])), (a_bears, .inl (cI, 6, .inl f_bears)), (a_borneBy, .inl (cI, 5, .inl f_borneBy)), (a_due, .inl (cI, 5, .inl f_due)), (a_gone, .inl (cZ, 5, .inl f_gone)), (a_may, .inl (cI, 6, .inl f_may)), (a_pad, .inl (cI, 48, .inl f_pad)), (a_sunk, .inl (cZ, 6, .inl f_sunk)), (a_times, .inl (cI, 5, .inl f_times)), (a_whoBore, .inl (cI, 5, .inl f_whoBore))] (QI D [(a_t, .inr (8, [.ref a_may, .ref b_voyage, .ref b_lucky, .ref b_worths, .ref b_ranks, .int x_t_signs, .ref a_pad, .int x_t_day, .int x_t_reason, .ref a_bears, .ref a_due, .ref a_borneBy, .ref a_gone, .ref a_sunk, .ref a_times, .int x_t_asked, .ref a_whoBore, .ref b_gives, .ref b_best, .ref b_holds, .ref b_refused, .ref b_sums, .ref b_image, .ref b_isKept])), (a_bears, .inl (cI, 6, .inl f_bears)), (a_borneBy, .inl (cI, 5, .inl f_borneBy)), (a_due, .inl (cI, 5, .inl f_due)), (a_gone, .inl (cZ, 5, .inl f_gone)), (a_may, .inl (cI, 6, .inl f_may)), (a_pad, .inl (cI, 48, .inl f_pad)), (a_sunk, .inl (cZ, 6, .inl f_sunk)), (a_times, .inl (cI, 5, .inl f_times)), (a_whoBore, .inl (cI, 5, .inl f_whoBore))] (fun (r : Int32) (u : (Nat → Int32) × (Nat → Int32) × (Nat → Int32) × (Nat → Int32) × (Nat → Int32) × (Nat → Int32) × (Nat → Int32) × Int32 × Int32) => r = res.1 ∧ u = res.2) (fun (u : (Nat → Int32) × (Nat → Int32) × (Nat → Int32) × (Nat → Int32) × (Nat → Int32) × (Nat → Int32) × (Nat → Int32) × Int32 × Int32) => [(a_t, .inr (8, [.ref a_may, .ref b_voyage, .ref b_lucky, .ref b_worths, .ref b_ranks, .int x_t_signs, .ref a_pad, .int u.2.2.2.2.2.2.2.1, .int u.2.2.2.2.2.2.2.2, .ref a_bears, .ref a_due, .ref a_borneBy, .ref a_gone, .ref a_sunk, .ref a_times, .int x_t_asked, .ref a_whoBore, .ref b_gives, .ref b_best, .ref b_holds, .ref b_refused, .ref b_sums, .ref b_image, .ref b_isKept])), (a_bears, .inl (cI, 6, .inl u.1)), (a_borneBy, .inl (cI, 5, .inl u.2.1)), (a_due, .inl (cI, 5, .inl u.2.2.1)), (a_gone, .inl (cZ, 5, .inl u.2.2.2.1)), (a_may, .inl (cI, 6, .inl f_may)), (a_pad, .inl (cI, 48, .inl f_pad)), (a_sunk, .inl (cZ, 6, .inl u.2.2.2.2.1)), (a_times, .inl (cI, 5, .inl u.2.2.2.2.2.1)), (a_whoBore, .inl (cI, 5, .inl u.2.2.2.2.2.2.1))])) 0 0 := by
  have h : (ogb (m_X8_beginLog f_bears f_borneBy f_due f_gone f_sunk f_times f_whoBore x_t_day x_t_reason) (fun q_1 => (m_X8_goLog_8 f_may f_pad x_t_signs x_t_asked 1000000 v1 1 1 q_1.1 q_1.2.1 q_1.2.2.1 q_1.2.2.2.1 q_1.2.2.2.2.1 q_1.2.2.2.2.2.1 q_1.2.2.2.2.2.2.1 q_1.2.2.2.2.2.2.2.1 q_1.2.2.2.2.2.2.2.2)) : Option (Int32 × ((Nat → Int32) × (Nat → Int32) × (Nat → Int32) × (Nat → Int32) × (Nat → Int32) × (Nat → Int32) × (Nat → Int32) × Int32 × Int32))) = some res := h
  refine ct_entry (cc := cX8_goLog) (nl := 8) (ret := (some .int)) (own := RX8) (lv0 := [(0, .ref a_t), (1, .int v1)]) (by decide) rfl rfl (Nat.le_of_ble_eq_true rfl) rfl ?_
  intro p e s m args below meth c A Q hA hQ hr hnm B
  have iX8 : ∀ w ∈ wsX80, w ∈ wsX8_goLog := by decide +kernel
  have cut_32 : ∀ (fuel : Nat) (v1 : Int32) (v2 : Int32) (v3 : Int32) (v4 : Int32) (f_bears : (Nat → Int32)) (f_borneBy : (Nat → Int32)) (f_due : (Nat → Int32)) (f_gone : (Nat → Int32)) (f_sunk : (Nat → Int32)) (f_times : (Nat → Int32)) (f_whoBore : (Nat → Int32)) (x_t_day : Int32) (x_t_reason : Int32), m_X8_goLog_32 f_may f_pad x_t_signs x_t_asked fuel v1 v2 v3 v4 f_bears f_borneBy f_due f_gone f_sunk f_times f_whoBore x_t_day x_t_reason = some res → WW p l e (headSpec wsX8_goLog ({ frames := 2, cells := 0, slots := 0, locals := 43 } : Room)).room s m args below meth c D A 8 0 0 Q [(a_t, .inr (8, [.ref a_may, .ref b_voyage, .ref b_lucky, .ref b_worths, .ref b_ranks, .int x_t_signs, .ref a_pad, .int x_t_day, .int x_t_reason, .ref a_bears, .ref a_due, .ref a_borneBy, .ref a_gone, .ref a_sunk, .ref a_times, .int x_t_asked, .ref a_whoBore, .ref b_gives, .ref b_best, .ref b_holds, .ref b_refused, .ref b_sums, .ref b_image, .ref b_isKept])), (a_bears, .inl (cI, 6, .inl f_bears)), (a_borneBy, .inl (cI, 5, .inl f_borneBy)), (a_due, .inl (cI, 5, .inl f_due)), (a_gone, .inl (cZ, 5, .inl f_gone)), (a_may, .inl (cI, 6, .inl f_may)), (a_pad, .inl (cI, 48, .inl f_pad)), (a_sunk, .inl (cZ, 6, .inl f_sunk)), (a_times, .inl (cI, 5, .inl f_times)), (a_whoBore, .inl (cI, 5, .inl f_whoBore))] [(0, .ref a_t), (1, .int v1), (2, .int v2), (3, .int v3), (4, .int v4)] [] 32 := by
    intro fuel_32
    induction fuel_32 with
    | zero => intro v1 v2 v3 v4 f_bears f_borneBy f_due f_gone f_sunk f_times f_whoBore x_t_day x_t_reason h; exact og_0 h
    | succ fuel_32 ih_32 =>
      have cut_267 : ∀ (v1 : Int32) (v2 : Int32) (v3 : Int32) (v4 : Int32) (f_bears : (Nat → Int32)) (f_borneBy : (Nat → Int32)) (f_due : (Nat → Int32)) (f_gone : (Nat → Int32)) (f_sunk : (Nat → Int32)) (f_times : (Nat → Int32)) (f_whoBore : (Nat → Int32)) (x_t_day : Int32) (x_t_reason : Int32), m_X8_goLog_267 (m_X8_goLog_32 f_may f_pad x_t_signs x_t_asked fuel_32) f_may f_pad x_t_signs x_t_asked v1 v2 v3 v4 f_bears f_borneBy f_due f_gone f_sunk f_times f_whoBore x_t_day x_t_reason = some res → WW p l e (headSpec wsX8_goLog ({ frames := 2, cells := 0, slots := 0, locals := 43 } : Room)).room s m args below meth c D A 8 0 0 Q [(a_t, .inr (8, [.ref a_may, .ref b_voyage, .ref b_lucky, .ref b_worths, .ref b_ranks, .int x_t_signs, .ref a_pad, .int x_t_day, .int x_t_reason, .ref a_bears, .ref a_due, .ref a_borneBy, .ref a_gone, .ref a_sunk, .ref a_times, .int x_t_asked, .ref a_whoBore, .ref b_gives, .ref b_best, .ref b_holds, .ref b_refused, .ref b_sums, .ref b_image, .ref b_isKept])), (a_bears, .inl (cI, 6, .inl f_bears)), (a_borneBy, .inl (cI, 5, .inl f_borneBy)), (a_due, .inl (cI, 5, .inl f_due)), (a_gone, .inl (cZ, 5, .inl f_gone)), (a_may, .inl (cI, 6, .inl f_may)), (a_pad, .inl (cI, 48, .inl f_pad)), (a_sunk, .inl (cZ, 6, .inl f_sunk)), (a_times, .inl (cI, 5, .inl f_times)), (a_whoBore, .inl (cI, 5, .inl f_whoBore))] [(0, .ref a_t), (1, .int v1), (2, .int v2), (3, .int v3), (4, .int v4)] [] 267 := by
        intro v1 v2 v3 v4 f_bears f_borneBy f_due f_gone f_sunk f_times f_whoBore x_t_day x_t_reason h
        replace h : (ogl (v4 + 1) (fun (v4_267 : Int32) => ((m_X8_goLog_32 f_may f_pad x_t_signs x_t_asked fuel_32) v1 v2 v3 v4_267 f_bears f_borneBy f_due f_gone f_sunk f_times f_whoBore x_t_day x_t_reason)) : Option (Int32 × ((Nat → Int32) × (Nat → Int32) × (Nat → Int32) × (Nat → Int32) × (Nat → Int32) × (Nat → Int32) × (Nat → Int32) × Int32 × Int32))) = some res := h
        obtain ⟨v4_267, ev4_267⟩ : ∃ y : Int32, y = (v4 + 1) := ⟨_, rfl⟩
        refine ww_iinc B dX8_goLog_267 4 rfl (v := v4_267) (by rw [ev4_267]; rfl) (by decide) (lv' := [(4, .int v4_267), (0, .ref a_t), (1, .int v1), (2, .int v2), (3, .int v3)]) rfl ?_
        replace h := og_l ev4_267 h
        refine ww_goto B 32 dX8_goLog_270 (by decide) ?_
        refine ww_lsel (lv' := [(0, .ref a_t), (1, .int v1), (2, .int v2), (3, .int v3), (4, .int v4_267)]) [1, 2, 3, 4, 0] rfl ?_
        exact ih_32 _ _ _ _ _ _ _ _ _ _ _ _ _ h
      have cut_183 : ∀ (v1 : Int32) (v3 : Int32) (v4 : Int32) (v6 : Int32) (s0 : Int32) (f_bears : (Nat → Int32)) (f_borneBy : (Nat → Int32)) (f_due : (Nat → Int32)) (f_gone : (Nat → Int32)) (f_sunk : (Nat → Int32)) (f_times : (Nat → Int32)) (f_whoBore : (Nat → Int32)) (x_t_day : Int32) (x_t_reason : Int32), m_X8_goLog_183 (m_X8_goLog_32 f_may f_pad x_t_signs x_t_asked fuel_32) f_may f_pad x_t_signs x_t_asked v1 v3 v4 v6 s0 f_bears f_borneBy f_due f_gone f_sunk f_times f_whoBore x_t_day x_t_reason = some res → WW p l e (headSpec wsX8_goLog ({ frames := 2, cells := 0, slots := 0, locals := 43 } : Room)).room s m args below meth c D A 8 0 0 Q [(a_t, .inr (8, [.ref a_may, .ref b_voyage, .ref b_lucky, .ref b_worths, .ref b_ranks, .int x_t_signs, .ref a_pad, .int x_t_day, .int x_t_reason, .ref a_bears, .ref a_due, .ref a_borneBy, .ref a_gone, .ref a_sunk, .ref a_times, .int x_t_asked, .ref a_whoBore, .ref b_gives, .ref b_best, .ref b_holds, .ref b_refused, .ref b_sums, .ref b_image, .ref b_isKept])), (a_bears, .inl (cI, 6, .inl f_bears)), (a_borneBy, .inl (cI, 5, .inl f_borneBy)), (a_due, .inl (cI, 5, .inl f_due)), (a_gone, .inl (cZ, 5, .inl f_gone)), (a_may, .inl (cI, 6, .inl f_may)), (a_pad, .inl (cI, 48, .inl f_pad)), (a_sunk, .inl (cZ, 6, .inl f_sunk)), (a_times, .inl (cI, 5, .inl f_times)), (a_whoBore, .inl (cI, 5, .inl f_whoBore))] [(0, .ref a_t), (1, .int v1), (3, .int v3), (4, .int v4), (6, .int v6)] [.int s0] 183 := by
        intro v1 v3 v4 v6 s0 f_bears f_borneBy f_due f_gone f_sunk f_times f_whoBore x_t_day x_t_reason h
        replace h : (ogi (v3 + 1) 48 (ogl ((f_pad (Int32.toNatClampNeg (v3 + 1))) - 97) (fun (v7_195 : Int32) => ogb (m_X8_whyNot f_bears f_borneBy f_gone f_may f_sunk v6 v7_195) (fun q_203 => if q_203 ≤ 0 then (ogi v6 6 (ogi v7_195 5 (ogi (v3 + 2) 48 (ogi v7_195 5 (ogb (m_X8_keepWho (upd f_borneBy (Int32.toNatClampNeg v7_195) v6) x_t_day x_t_asked f_whoBore) (fun q_261 => ogl (v3 + 3) (fun (v3_264 : Int32) => (m_X8_goLog_267 (m_X8_goLog_32 f_may f_pad x_t_signs x_t_asked fuel_32) f_may f_pad x_t_signs x_t_asked v1 s0 v3_264 v4 (upd f_bears (Int32.toNatClampNeg v6) v7_195) (upd f_borneBy (Int32.toNatClampNeg v7_195) v6) (upd f_due (Int32.toNatClampNeg v7_195) ((x_t_day + (f_pad (Int32.toNatClampNeg (v3 + 2)))) - 48)) f_gone f_sunk f_times q_261 x_t_day q_203)))))))) else (some (v4, (f_bears, f_borneBy, f_due, f_gone, f_sunk, f_times, f_whoBore, x_t_day, q_203)))))) : Option (Int32 × ((Nat → Int32) × (Nat → Int32) × (Nat → Int32) × (Nat → Int32) × (Nat → Int32) × (Nat → Int32) × (Nat → Int32) × Int32 × Int32))) = some res := h
        refine ww_istore_n B dX8_goLog_183 (lv' := [(2, .int s0), (0, .ref a_t), (1, .int v1), (3, .int v3), (4, .int v4), (6, .int v6)]) (by decide) rfl ?_
        refine ww_aload_n B dX8_goLog_184 1 rfl ?_
        refine ww_get (ci := 8) (T := TX8) (C := RX8) (N := 24) B iX8 0 rfl rfl 6 (by decide) (by decide +kernel) rfl rfl dX8_goLog_185 ?_
        refine ww_iload_n B dX8_goLog_188 3 rfl ?_
        refine ww_iconst B dX8_goLog_189 (v := 1) (by decide) ?_
        refine ww_iadd B dX8_goLog_190 ?_
        obtain ⟨i_191, h⟩ := og_i h
        refine ww_iald B 6 rfl i_191 dX8_goLog_191 ?_
        refine ww_bipush B dX8_goLog_192 (v := 97) (by decide) ?_
        refine ww_isub B dX8_goLog_194 ?_
        refine ww_topi (fun v7_195 ev7_195 => ?_)
        replace h := og_l ev7_195 h
        refine ww_istore B dX8_goLog_195 (lv' := [(7, .int v7_195), (2, .int s0), (0, .ref a_t), (1, .int v1), (3, .int v3), (4, .int v4), (6, .int v6)]) (by decide) rfl ?_
        refine ww_aload_n B dX8_goLog_197 2 rfl ?_
        refine ww_aload_n B dX8_goLog_198 2 rfl ?_
        refine ww_iload B dX8_goLog_199 6 rfl ?_
        refine ww_iload B dX8_goLog_201 0 rfl ?_
        obtain ⟨q_203, hq_203, h⟩ := og_b h
        refine ww_ci0 B (k' := 0) (n' := 0) rfl rfl [0, 1, 2, 4, 5, 7] [3, 6, 8, 9] (wr := [(a_due, .inl (cI, 5, .inl f_due)), (a_pad, .inl (cI, 48, .inl f_pad)), (a_times, .inl (cI, 5, .inl f_times)), (a_whoBore, .inl (cI, 5, .inl f_whoBore))]) (st := [.ref a_t]) rfl rfl (by decide) (rr_V B (c_X8_whyNot l D cI cZ a_t a_bears a_borneBy a_gone a_may a_sunk b_voyage b_lucky b_worths b_ranks a_pad a_due a_times a_whoBore b_gives b_best b_holds b_refused b_sums b_image b_isKept f_bears f_borneBy f_gone f_may f_sunk x_t_signs x_t_day x_t_reason x_t_asked v6 v7_195 hq_203) gX8_goLog_X8_whyNot rfl rfl rfl (N := 2) rfl (by decide +kernel) ⟨Nat.le_of_ble_eq_true rfl, Nat.le_of_ble_eq_true rfl⟩ rfl dX8_goLog_203 0 rfl rfl (Nat.le_of_ble_eq_true rfl) ⟨Nat.le_of_ble_eq_true rfl, Nat.le_of_ble_eq_true rfl⟩) (ws' := [(a_due, .inl (cI, 5, .inl f_due)), (a_pad, .inl (cI, 48, .inl f_pad)), (a_times, .inl (cI, 5, .inl f_times)), (a_whoBore, .inl (cI, 5, .inl f_whoBore)), (a_t, .inr (8, [.ref a_may, .ref b_voyage, .ref b_lucky, .ref b_worths, .ref b_ranks, .int x_t_signs, .ref a_pad, .int x_t_day, .int x_t_reason, .ref a_bears, .ref a_due, .ref a_borneBy, .ref a_gone, .ref a_sunk, .ref a_times, .int x_t_asked, .ref a_whoBore, .ref b_gives, .ref b_best, .ref b_holds, .ref b_refused, .ref b_sums, .ref b_image, .ref b_isKept])), (a_bears, .inl (cI, 6, .inl f_bears)), (a_borneBy, .inl (cI, 5, .inl f_borneBy)), (a_gone, .inl (cZ, 5, .inl f_gone)), (a_may, .inl (cI, 6, .inl f_may)), (a_sunk, .inl (cZ, 6, .inl f_sunk))]) rfl ?_
        refine ww_put (ci := 8) (T := TX8) (C := RX8) (N := 24) (ty := .int) B iX8 tyX8 tyX8_ok nmX8 4 rfl rfl 8 (by decide) (by decide +kernel) rfl rfl (by decide +kernel) rfl rfl (Nat.le_of_ble_eq_true rfl) dX8_goLog_206 (ws' := [(a_due, .inl (cI, 5, .inl f_due)), (a_pad, .inl (cI, 48, .inl f_pad)), (a_times, .inl (cI, 5, .inl f_times)), (a_whoBore, .inl (cI, 5, .inl f_whoBore)), (a_t, .inr (8, [.ref a_may, .ref b_voyage, .ref b_lucky, .ref b_worths, .ref b_ranks, .int x_t_signs, .ref a_pad, .int x_t_day, .int q_203, .ref a_bears, .ref a_due, .ref a_borneBy, .ref a_gone, .ref a_sunk, .ref a_times, .int x_t_asked, .ref a_whoBore, .ref b_gives, .ref b_best, .ref b_holds, .ref b_refused, .ref b_sums, .ref b_image, .ref b_isKept])), (a_bears, .inl (cI, 6, .inl f_bears)), (a_borneBy, .inl (cI, 5, .inl f_borneBy)), (a_gone, .inl (cZ, 5, .inl f_gone)), (a_may, .inl (cI, 6, .inl f_may)), (a_sunk, .inl (cZ, 6, .inl f_sunk))]) rfl ?_
        refine ww_aload_n B dX8_goLog_209 2 rfl ?_
        refine ww_get (ci := 8) (T := TX8) (C := RX8) (N := 24) B iX8 4 rfl rfl 8 (by decide) (by decide +kernel) rfl rfl dX8_goLog_210 ?_
        refine ww_if_le B 219 dX8_goLog_213 (by decide) (fun c_213 => ?_) (fun c_213 => ?_)
        · replace h := og_t c_213 h
          refine ww_aload_n B dX8_goLog_219 2 rfl ?_
          refine ww_get (ci := 8) (T := TX8) (C := RX8) (N := 24) B iX8 4 rfl rfl 9 (by decide) (by decide +kernel) rfl rfl dX8_goLog_220 ?_
          refine ww_iload B dX8_goLog_223 6 rfl ?_
          refine ww_iload B dX8_goLog_225 0 rfl ?_
          obtain ⟨i_227, h⟩ := og_i h
          refine ww_iast B 5 rfl i_227 dX8_goLog_227 (ws' := [(a_due, .inl (cI, 5, .inl f_due)), (a_pad, .inl (cI, 48, .inl f_pad)), (a_times, .inl (cI, 5, .inl f_times)), (a_whoBore, .inl (cI, 5, .inl f_whoBore)), (a_t, .inr (8, [.ref a_may, .ref b_voyage, .ref b_lucky, .ref b_worths, .ref b_ranks, .int x_t_signs, .ref a_pad, .int x_t_day, .int q_203, .ref a_bears, .ref a_due, .ref a_borneBy, .ref a_gone, .ref a_sunk, .ref a_times, .int x_t_asked, .ref a_whoBore, .ref b_gives, .ref b_best, .ref b_holds, .ref b_refused, .ref b_sums, .ref b_image, .ref b_isKept])), (a_bears, .inl (cI, 6, .inl (upd f_bears (Int32.toNatClampNeg v6) v7_195))), (a_borneBy, .inl (cI, 5, .inl f_borneBy)), (a_gone, .inl (cZ, 5, .inl f_gone)), (a_may, .inl (cI, 6, .inl f_may)), (a_sunk, .inl (cZ, 6, .inl f_sunk))]) rfl ?_
          refine ww_aload_n B dX8_goLog_228 2 rfl ?_
          refine ww_get (ci := 8) (T := TX8) (C := RX8) (N := 24) B iX8 4 rfl rfl 11 (by decide) (by decide +kernel) rfl rfl dX8_goLog_229 ?_
          refine ww_iload B dX8_goLog_232 0 rfl ?_
          refine ww_iload B dX8_goLog_234 6 rfl ?_
          obtain ⟨i_236, h⟩ := og_i h
          refine ww_iast B 6 rfl i_236 dX8_goLog_236 (ws' := [(a_due, .inl (cI, 5, .inl f_due)), (a_pad, .inl (cI, 48, .inl f_pad)), (a_times, .inl (cI, 5, .inl f_times)), (a_whoBore, .inl (cI, 5, .inl f_whoBore)), (a_t, .inr (8, [.ref a_may, .ref b_voyage, .ref b_lucky, .ref b_worths, .ref b_ranks, .int x_t_signs, .ref a_pad, .int x_t_day, .int q_203, .ref a_bears, .ref a_due, .ref a_borneBy, .ref a_gone, .ref a_sunk, .ref a_times, .int x_t_asked, .ref a_whoBore, .ref b_gives, .ref b_best, .ref b_holds, .ref b_refused, .ref b_sums, .ref b_image, .ref b_isKept])), (a_bears, .inl (cI, 6, .inl (upd f_bears (Int32.toNatClampNeg v6) v7_195))), (a_borneBy, .inl (cI, 5, .inl (upd f_borneBy (Int32.toNatClampNeg v7_195) v6))), (a_gone, .inl (cZ, 5, .inl f_gone)), (a_may, .inl (cI, 6, .inl f_may)), (a_sunk, .inl (cZ, 6, .inl f_sunk))]) rfl ?_
          refine ww_aload_n B dX8_goLog_237 2 rfl ?_
          refine ww_get (ci := 8) (T := TX8) (C := RX8) (N := 24) B iX8 4 rfl rfl 10 (by decide) (by decide +kernel) rfl rfl dX8_goLog_238 ?_
          refine ww_iload B dX8_goLog_241 0 rfl ?_
          refine ww_aload_n B dX8_goLog_243 2 rfl ?_
          refine ww_get (ci := 8) (T := TX8) (C := RX8) (N := 24) B iX8 4 rfl rfl 7 (by decide) (by decide +kernel) rfl rfl dX8_goLog_244 ?_
          refine ww_aload_n B dX8_goLog_247 2 rfl ?_
          refine ww_get (ci := 8) (T := TX8) (C := RX8) (N := 24) B iX8 4 rfl rfl 6 (by decide) (by decide +kernel) rfl rfl dX8_goLog_248 ?_
          refine ww_iload_n B dX8_goLog_251 4 rfl ?_
          refine ww_iconst B dX8_goLog_252 (v := 2) (by decide) ?_
          refine ww_iadd B dX8_goLog_253 ?_
          obtain ⟨i_254, h⟩ := og_i h
          refine ww_iald B 1 rfl i_254 dX8_goLog_254 ?_
          refine ww_iadd B dX8_goLog_255 ?_
          refine ww_bipush B dX8_goLog_256 (v := 48) (by decide) ?_
          refine ww_isub B dX8_goLog_258 ?_
          obtain ⟨i_259, h⟩ := og_i h
          refine ww_iast B 0 rfl i_259 dX8_goLog_259 (ws' := [(a_due, .inl (cI, 5, .inl (upd f_due (Int32.toNatClampNeg v7_195) ((x_t_day + (f_pad (Int32.toNatClampNeg (v3 + 2)))) - 48)))), (a_pad, .inl (cI, 48, .inl f_pad)), (a_times, .inl (cI, 5, .inl f_times)), (a_whoBore, .inl (cI, 5, .inl f_whoBore)), (a_t, .inr (8, [.ref a_may, .ref b_voyage, .ref b_lucky, .ref b_worths, .ref b_ranks, .int x_t_signs, .ref a_pad, .int x_t_day, .int q_203, .ref a_bears, .ref a_due, .ref a_borneBy, .ref a_gone, .ref a_sunk, .ref a_times, .int x_t_asked, .ref a_whoBore, .ref b_gives, .ref b_best, .ref b_holds, .ref b_refused, .ref b_sums, .ref b_image, .ref b_isKept])), (a_bears, .inl (cI, 6, .inl (upd f_bears (Int32.toNatClampNeg v6) v7_195))), (a_borneBy, .inl (cI, 5, .inl (upd f_borneBy (Int32.toNatClampNeg v7_195) v6))), (a_gone, .inl (cZ, 5, .inl f_gone)), (a_may, .inl (cI, 6, .inl f_may)), (a_sunk, .inl (cZ, 6, .inl f_sunk))]) rfl ?_
          refine ww_aload_n B dX8_goLog_260 2 rfl ?_
          obtain ⟨q_261, hq_261, h⟩ := og_b h
          refine ww_cvM B (k' := 0) (n' := 0) rfl rfl [4, 6, 3] [0, 1, 2, 5, 7, 8, 9] (wr := [(a_due, .inl (cI, 5, .inl (upd f_due (Int32.toNatClampNeg v7_195) ((x_t_day + (f_pad (Int32.toNatClampNeg (v3 + 2)))) - 48)))), (a_pad, .inl (cI, 48, .inl f_pad)), (a_times, .inl (cI, 5, .inl f_times)), (a_bears, .inl (cI, 6, .inl (upd f_bears (Int32.toNatClampNeg v6) v7_195))), (a_gone, .inl (cZ, 5, .inl f_gone)), (a_may, .inl (cI, 6, .inl f_may)), (a_sunk, .inl (cZ, 6, .inl f_sunk))]) (st := []) rfl rfl (by decide) (rr_V B (c_X8_keepWho l D cI cZ a_t a_borneBy a_whoBore a_may b_voyage b_lucky b_worths b_ranks a_pad a_bears a_due a_gone a_sunk a_times b_gives b_best b_holds b_refused b_sums b_image b_isKept (upd f_borneBy (Int32.toNatClampNeg v7_195) v6) f_whoBore x_t_signs x_t_day q_203 x_t_asked hq_261) gX8_goLog_X8_keepWho rfl rfl rfl (N := 0) rfl (by decide +kernel) ⟨Nat.le_of_ble_eq_true rfl, Nat.le_of_ble_eq_true rfl⟩ rfl dX8_goLog_261 0 rfl rfl (Nat.le_of_ble_eq_true rfl) ⟨Nat.le_of_ble_eq_true rfl, Nat.le_of_ble_eq_true rfl⟩) (ws' := [(a_due, .inl (cI, 5, .inl (upd f_due (Int32.toNatClampNeg v7_195) ((x_t_day + (f_pad (Int32.toNatClampNeg (v3 + 2)))) - 48)))), (a_pad, .inl (cI, 48, .inl f_pad)), (a_times, .inl (cI, 5, .inl f_times)), (a_bears, .inl (cI, 6, .inl (upd f_bears (Int32.toNatClampNeg v6) v7_195))), (a_gone, .inl (cZ, 5, .inl f_gone)), (a_may, .inl (cI, 6, .inl f_may)), (a_sunk, .inl (cZ, 6, .inl f_sunk)), (a_t, .inr (8, [.ref a_may, .ref b_voyage, .ref b_lucky, .ref b_worths, .ref b_ranks, .int x_t_signs, .ref a_pad, .int x_t_day, .int q_203, .ref a_bears, .ref a_due, .ref a_borneBy, .ref a_gone, .ref a_sunk, .ref a_times, .int x_t_asked, .ref a_whoBore, .ref b_gives, .ref b_best, .ref b_holds, .ref b_refused, .ref b_sums, .ref b_image, .ref b_isKept])), (a_borneBy, .inl (cI, 5, .inl (upd f_borneBy (Int32.toNatClampNeg v7_195) v6))), (a_whoBore, .inl (cI, 5, .inl q_261))]) rfl ?_
          obtain ⟨v3_264, ev3_264⟩ : ∃ y : Int32, y = (v3 + 3) := ⟨_, rfl⟩
          refine ww_iinc B dX8_goLog_264 4 rfl (v := v3_264) (by rw [ev3_264]; rfl) (by decide) (lv' := [(3, .int v3_264), (7, .int v7_195), (2, .int s0), (0, .ref a_t), (1, .int v1), (4, .int v4), (6, .int v6)]) rfl ?_
          replace h := og_l ev3_264 h
          refine ww_sub (ws' := [(a_t, .inr (8, [.ref a_may, .ref b_voyage, .ref b_lucky, .ref b_worths, .ref b_ranks, .int x_t_signs, .ref a_pad, .int x_t_day, .int q_203, .ref a_bears, .ref a_due, .ref a_borneBy, .ref a_gone, .ref a_sunk, .ref a_times, .int x_t_asked, .ref a_whoBore, .ref b_gives, .ref b_best, .ref b_holds, .ref b_refused, .ref b_sums, .ref b_image, .ref b_isKept])), (a_bears, .inl (cI, 6, .inl (upd f_bears (Int32.toNatClampNeg v6) v7_195))), (a_borneBy, .inl (cI, 5, .inl (upd f_borneBy (Int32.toNatClampNeg v7_195) v6))), (a_due, .inl (cI, 5, .inl (upd f_due (Int32.toNatClampNeg v7_195) ((x_t_day + (f_pad (Int32.toNatClampNeg (v3 + 2)))) - 48)))), (a_gone, .inl (cZ, 5, .inl f_gone)), (a_may, .inl (cI, 6, .inl f_may)), (a_pad, .inl (cI, 48, .inl f_pad)), (a_sunk, .inl (cZ, 6, .inl f_sunk)), (a_times, .inl (cI, 5, .inl f_times)), (a_whoBore, .inl (cI, 5, .inl q_261))]) [7, 3, 8, 0, 4, 5, 1, 6, 2, 9] rfl (by decide) ?_
          refine ww_lsel (lv' := [(0, .ref a_t), (1, .int v1), (2, .int s0), (3, .int v3_264), (4, .int v4)]) [3, 4, 2, 0, 5] rfl ?_
          exact cut_267 _ _ _ _ _ _ _ _ _ _ _ _ _ h
        · replace h := og_f c_213 h
          refine ww_iload B dX8_goLog_216 5 rfl ?_
          exact ww_iret B hA hQ hr dX8_goLog_218 (f_bears, f_borneBy, f_due, f_gone, f_sunk, f_times, f_whoBore, x_t_day, q_203) [4, 5, 6, 0, 7, 8, 1, 9, 2, 3] rfl (by decide) (og_p h)
      have cut_182 : ∀ (v1 : Int32) (v2 : Int32) (v3 : Int32) (v4 : Int32) (v6 : Int32) (f_bears : (Nat → Int32)) (f_borneBy : (Nat → Int32)) (f_due : (Nat → Int32)) (f_gone : (Nat → Int32)) (f_sunk : (Nat → Int32)) (f_times : (Nat → Int32)) (f_whoBore : (Nat → Int32)) (x_t_day : Int32) (x_t_reason : Int32), m_X8_goLog_182 (m_X8_goLog_32 f_may f_pad x_t_signs x_t_asked fuel_32) f_may f_pad x_t_signs x_t_asked v1 v2 v3 v4 v6 f_bears f_borneBy f_due f_gone f_sunk f_times f_whoBore x_t_day x_t_reason = some res → WW p l e (headSpec wsX8_goLog ({ frames := 2, cells := 0, slots := 0, locals := 43 } : Room)).room s m args below meth c D A 8 0 0 Q [(a_t, .inr (8, [.ref a_may, .ref b_voyage, .ref b_lucky, .ref b_worths, .ref b_ranks, .int x_t_signs, .ref a_pad, .int x_t_day, .int x_t_reason, .ref a_bears, .ref a_due, .ref a_borneBy, .ref a_gone, .ref a_sunk, .ref a_times, .int x_t_asked, .ref a_whoBore, .ref b_gives, .ref b_best, .ref b_holds, .ref b_refused, .ref b_sums, .ref b_image, .ref b_isKept])), (a_bears, .inl (cI, 6, .inl f_bears)), (a_borneBy, .inl (cI, 5, .inl f_borneBy)), (a_due, .inl (cI, 5, .inl f_due)), (a_gone, .inl (cZ, 5, .inl f_gone)), (a_may, .inl (cI, 6, .inl f_may)), (a_pad, .inl (cI, 48, .inl f_pad)), (a_sunk, .inl (cZ, 6, .inl f_sunk)), (a_times, .inl (cI, 5, .inl f_times)), (a_whoBore, .inl (cI, 5, .inl f_whoBore))] [(0, .ref a_t), (1, .int v1), (2, .int v2), (3, .int v3), (4, .int v4), (6, .int v6)] [] 182 := by
        intro v1 v2 v3 v4 v6 f_bears f_borneBy f_due f_gone f_sunk f_times f_whoBore x_t_day x_t_reason h
        replace h : ((m_X8_goLog_183 (m_X8_goLog_32 f_may f_pad x_t_signs x_t_asked fuel_32) f_may f_pad x_t_signs x_t_asked v1 v3 v4 v6 v2 f_bears f_borneBy f_due f_gone f_sunk f_times f_whoBore x_t_day x_t_reason) : Option (Int32 × ((Nat → Int32) × (Nat → Int32) × (Nat → Int32) × (Nat → Int32) × (Nat → Int32) × (Nat → Int32) × (Nat → Int32) × Int32 × Int32))) = some res := h
        refine ww_iload_n B dX8_goLog_182 2 rfl ?_
        refine ww_lsel (lv' := [(0, .ref a_t), (1, .int v1), (3, .int v3), (4, .int v4), (6, .int v6)]) [0, 1, 3, 4, 5] rfl ?_
        exact cut_183 _ _ _ _ _ _ _ _ _ _ _ _ _ _ h
      have cut_161 : ∀ (v1 : Int32) (v2 : Int32) (v3 : Int32) (v4 : Int32) (v5 : Int32) (s0 : Int32) (f_bears : (Nat → Int32)) (f_borneBy : (Nat → Int32)) (f_due : (Nat → Int32)) (f_gone : (Nat → Int32)) (f_sunk : (Nat → Int32)) (f_times : (Nat → Int32)) (f_whoBore : (Nat → Int32)) (x_t_day : Int32) (x_t_reason : Int32), m_X8_goLog_161 (m_X8_goLog_32 f_may f_pad x_t_signs x_t_asked fuel_32) f_may f_pad x_t_signs x_t_asked v1 v2 v3 v4 v5 s0 f_bears f_borneBy f_due f_gone f_sunk f_times f_whoBore x_t_day x_t_reason = some res → WW p l e (headSpec wsX8_goLog ({ frames := 2, cells := 0, slots := 0, locals := 43 } : Room)).room s m args below meth c D A 8 0 0 Q [(a_t, .inr (8, [.ref a_may, .ref b_voyage, .ref b_lucky, .ref b_worths, .ref b_ranks, .int x_t_signs, .ref a_pad, .int x_t_day, .int x_t_reason, .ref a_bears, .ref a_due, .ref a_borneBy, .ref a_gone, .ref a_sunk, .ref a_times, .int x_t_asked, .ref a_whoBore, .ref b_gives, .ref b_best, .ref b_holds, .ref b_refused, .ref b_sums, .ref b_image, .ref b_isKept])), (a_bears, .inl (cI, 6, .inl f_bears)), (a_borneBy, .inl (cI, 5, .inl f_borneBy)), (a_due, .inl (cI, 5, .inl f_due)), (a_gone, .inl (cZ, 5, .inl f_gone)), (a_may, .inl (cI, 6, .inl f_may)), (a_pad, .inl (cI, 48, .inl f_pad)), (a_sunk, .inl (cZ, 6, .inl f_sunk)), (a_times, .inl (cI, 5, .inl f_times)), (a_whoBore, .inl (cI, 5, .inl f_whoBore))] [(0, .ref a_t), (1, .int v1), (2, .int v2), (3, .int v3), (4, .int v4), (5, .int v5)] [.int s0] 161 := by
        intro v1 v2 v3 v4 v5 s0 f_bears f_borneBy f_due f_gone f_sunk f_times f_whoBore x_t_day x_t_reason h
        replace h : (if v5 = 63 then (if v2 ≤ 1 then ((m_X8_goLog_182 (m_X8_goLog_32 f_may f_pad x_t_signs x_t_asked fuel_32) f_may f_pad x_t_signs x_t_asked v1 v2 v3 v4 s0 f_bears f_borneBy f_due f_gone f_sunk f_times f_whoBore x_t_day x_t_reason)) else ((m_X8_goLog_183 (m_X8_goLog_32 f_may f_pad x_t_signs x_t_asked fuel_32) f_may f_pad x_t_signs x_t_asked v1 v3 v4 s0 (v2 / 6) f_bears f_borneBy f_due f_gone f_sunk f_times f_whoBore x_t_day x_t_reason))) else ((m_X8_goLog_182 (m_X8_goLog_32 f_may f_pad x_t_signs x_t_asked fuel_32) f_may f_pad x_t_signs x_t_asked v1 v2 v3 v4 s0 f_bears f_borneBy f_due f_gone f_sunk f_times f_whoBore x_t_day x_t_reason)) : Option (Int32 × ((Nat → Int32) × (Nat → Int32) × (Nat → Int32) × (Nat → Int32) × (Nat → Int32) × (Nat → Int32) × (Nat → Int32) × Int32 × Int32))) = some res := h
        refine ww_istore B dX8_goLog_161 (lv' := [(6, .int s0), (0, .ref a_t), (1, .int v1), (2, .int v2), (3, .int v3), (4, .int v4), (5, .int v5)]) (by decide) rfl ?_
        refine ww_iload B dX8_goLog_163 6 rfl ?_
        refine ww_bipush B dX8_goLog_165 (v := 63) (by decide) ?_
        refine ww_icmp_ne B 182 dX8_goLog_167 (by decide) (fun c_167 => ?_) (fun c_167 => ?_)
        · replace h := og_f c_167 h
          refine ww_lsel (lv' := [(0, .ref a_t), (1, .int v1), (2, .int v2), (3, .int v3), (4, .int v4), (6, .int s0)]) [1, 2, 3, 4, 5, 0] rfl ?_
          exact cut_182 _ _ _ _ _ _ _ _ _ _ _ _ _ _ h
        · replace h := og_t c_167 h
          refine ww_iload_n B dX8_goLog_170 3 rfl ?_
          refine ww_iconst B dX8_goLog_171 (v := 1) (by decide) ?_
          refine ww_icmp_le B 182 dX8_goLog_172 (by decide) (fun c_172 => ?_) (fun c_172 => ?_)
          · replace h := og_t c_172 h
            refine ww_lsel (lv' := [(0, .ref a_t), (1, .int v1), (2, .int v2), (3, .int v3), (4, .int v4), (6, .int s0)]) [1, 2, 3, 4, 5, 0] rfl ?_
            exact cut_182 _ _ _ _ _ _ _ _ _ _ _ _ _ _ h
          · replace h := og_f c_172 h
            refine ww_iload_n B dX8_goLog_175 3 rfl ?_
            refine ww_bipush B dX8_goLog_176 (v := 6) (by decide) ?_
            refine ww_idiv B dX8_goLog_178 (by decide) ?_
            refine ww_goto B 183 dX8_goLog_179 (by decide) ?_
            refine ww_lsel (lv' := [(0, .ref a_t), (1, .int v1), (3, .int v3), (4, .int v4), (6, .int s0)]) [1, 2, 4, 5, 0] rfl ?_
            exact cut_183 _ _ _ _ _ _ _ _ _ _ _ _ _ _ h
      have cut_115 : ∀ (v1 : Int32) (v2 : Int32) (v3 : Int32) (v4 : Int32) (v6 : Int32) (s1 : Int32) (f_bears : (Nat → Int32)) (f_borneBy : (Nat → Int32)) (f_due : (Nat → Int32)) (f_gone : (Nat → Int32)) (f_sunk : (Nat → Int32)) (f_times : (Nat → Int32)) (f_whoBore : (Nat → Int32)) (x_t_day : Int32) (x_t_reason : Int32), m_X8_goLog_115 (m_X8_goLog_32 f_may f_pad x_t_signs x_t_asked fuel_32) f_may f_pad x_t_signs x_t_asked v1 v2 v3 v4 v6 s1 f_bears f_borneBy f_due f_gone f_sunk f_times f_whoBore x_t_day x_t_reason = some res → WW p l e (headSpec wsX8_goLog ({ frames := 2, cells := 0, slots := 0, locals := 43 } : Room)).room s m args below meth c D A 8 0 0 Q [(a_t, .inr (8, [.ref a_may, .ref b_voyage, .ref b_lucky, .ref b_worths, .ref b_ranks, .int x_t_signs, .ref a_pad, .int x_t_day, .int x_t_reason, .ref a_bears, .ref a_due, .ref a_borneBy, .ref a_gone, .ref a_sunk, .ref a_times, .int x_t_asked, .ref a_whoBore, .ref b_gives, .ref b_best, .ref b_holds, .ref b_refused, .ref b_sums, .ref b_image, .ref b_isKept])), (a_bears, .inl (cI, 6, .inl f_bears)), (a_borneBy, .inl (cI, 5, .inl f_borneBy)), (a_due, .inl (cI, 5, .inl f_due)), (a_gone, .inl (cZ, 5, .inl f_gone)), (a_may, .inl (cI, 6, .inl f_may)), (a_pad, .inl (cI, 48, .inl f_pad)), (a_sunk, .inl (cZ, 6, .inl f_sunk)), (a_times, .inl (cI, 5, .inl f_times)), (a_whoBore, .inl (cI, 5, .inl f_whoBore))] [(0, .ref a_t), (1, .int v1), (2, .int v2), (3, .int v3), (4, .int v4), (6, .int v6)] [.int s1, .ref a_t] 115 := by
        intro v1 v2 v3 v4 v6 s1 f_bears f_borneBy f_due f_gone f_sunk f_times f_whoBore x_t_day x_t_reason h
        replace h : (if s1 ≤ 0 then (ogb (m_X8_drown f_bears f_borneBy f_gone f_sunk v6) (fun q_131 => ogl (v3 + 2) (fun (v3_134 : Int32) => (m_X8_goLog_267 (m_X8_goLog_32 f_may f_pad x_t_signs x_t_asked fuel_32) f_may f_pad x_t_signs x_t_asked v1 v2 v3_134 v4 q_131.1 q_131.2.1 f_due q_131.2.2.1 q_131.2.2.2 f_times f_whoBore x_t_day s1)))) else (some (v4, (f_bears, f_borneBy, f_due, f_gone, f_sunk, f_times, f_whoBore, x_t_day, s1))) : Option (Int32 × ((Nat → Int32) × (Nat → Int32) × (Nat → Int32) × (Nat → Int32) × (Nat → Int32) × (Nat → Int32) × (Nat → Int32) × Int32 × Int32))) = some res := h
        refine ww_put (ci := 8) (T := TX8) (C := RX8) (N := 24) (ty := .int) B iX8 tyX8 tyX8_ok nmX8 0 rfl rfl 8 (by decide) (by decide +kernel) rfl rfl (by decide +kernel) rfl rfl (Nat.le_of_ble_eq_true rfl) dX8_goLog_115 (ws' := [(a_t, .inr (8, [.ref a_may, .ref b_voyage, .ref b_lucky, .ref b_worths, .ref b_ranks, .int x_t_signs, .ref a_pad, .int x_t_day, .int s1, .ref a_bears, .ref a_due, .ref a_borneBy, .ref a_gone, .ref a_sunk, .ref a_times, .int x_t_asked, .ref a_whoBore, .ref b_gives, .ref b_best, .ref b_holds, .ref b_refused, .ref b_sums, .ref b_image, .ref b_isKept])), (a_bears, .inl (cI, 6, .inl f_bears)), (a_borneBy, .inl (cI, 5, .inl f_borneBy)), (a_due, .inl (cI, 5, .inl f_due)), (a_gone, .inl (cZ, 5, .inl f_gone)), (a_may, .inl (cI, 6, .inl f_may)), (a_pad, .inl (cI, 48, .inl f_pad)), (a_sunk, .inl (cZ, 6, .inl f_sunk)), (a_times, .inl (cI, 5, .inl f_times)), (a_whoBore, .inl (cI, 5, .inl f_whoBore))]) rfl ?_
        refine ww_aload_n B dX8_goLog_118 0 rfl ?_
        refine ww_get (ci := 8) (T := TX8) (C := RX8) (N := 24) B iX8 0 rfl rfl 8 (by decide) (by decide +kernel) rfl rfl dX8_goLog_119 ?_
        refine ww_if_le B 128 dX8_goLog_122 (by decide) (fun c_122 => ?_) (fun c_122 => ?_)
        · replace h := og_t c_122 h
          refine ww_aload_n B dX8_goLog_128 0 rfl ?_
          refine ww_iload B dX8_goLog_129 5 rfl ?_
          obtain ⟨q_131, hq_131, h⟩ := og_b h
          refine ww_cvM B (k' := 0) (n' := 0) rfl rfl [0, 1, 2, 4, 7] [3, 5, 6, 8, 9] (wr := [(a_due, .inl (cI, 5, .inl f_due)), (a_may, .inl (cI, 6, .inl f_may)), (a_pad, .inl (cI, 48, .inl f_pad)), (a_times, .inl (cI, 5, .inl f_times)), (a_whoBore, .inl (cI, 5, .inl f_whoBore))]) (st := []) rfl rfl (by decide) (rr_V B (c_X8_drown l D cI cZ a_t a_bears a_borneBy a_gone a_sunk a_may b_voyage b_lucky b_worths b_ranks a_pad a_due a_times a_whoBore b_gives b_best b_holds b_refused b_sums b_image b_isKept f_bears f_borneBy f_gone f_sunk x_t_signs x_t_day s1 x_t_asked v6 hq_131) gX8_goLog_X8_drown rfl rfl rfl (N := 1) rfl (by decide +kernel) ⟨Nat.le_of_ble_eq_true rfl, Nat.le_of_ble_eq_true rfl⟩ rfl dX8_goLog_131 0 rfl rfl (Nat.le_of_ble_eq_true rfl) ⟨Nat.le_of_ble_eq_true rfl, Nat.le_of_ble_eq_true rfl⟩) (ws' := [(a_due, .inl (cI, 5, .inl f_due)), (a_may, .inl (cI, 6, .inl f_may)), (a_pad, .inl (cI, 48, .inl f_pad)), (a_times, .inl (cI, 5, .inl f_times)), (a_whoBore, .inl (cI, 5, .inl f_whoBore)), (a_t, .inr (8, [.ref a_may, .ref b_voyage, .ref b_lucky, .ref b_worths, .ref b_ranks, .int x_t_signs, .ref a_pad, .int x_t_day, .int s1, .ref a_bears, .ref a_due, .ref a_borneBy, .ref a_gone, .ref a_sunk, .ref a_times, .int x_t_asked, .ref a_whoBore, .ref b_gives, .ref b_best, .ref b_holds, .ref b_refused, .ref b_sums, .ref b_image, .ref b_isKept])), (a_bears, .inl (cI, 6, .inl q_131.1)), (a_borneBy, .inl (cI, 5, .inl q_131.2.1)), (a_gone, .inl (cZ, 5, .inl q_131.2.2.1)), (a_sunk, .inl (cZ, 6, .inl q_131.2.2.2))]) rfl ?_
          obtain ⟨v3_134, ev3_134⟩ : ∃ y : Int32, y = (v3 + 2) := ⟨_, rfl⟩
          refine ww_iinc B dX8_goLog_134 3 rfl (v := v3_134) (by rw [ev3_134]; rfl) (by decide) (lv' := [(3, .int v3_134), (0, .ref a_t), (1, .int v1), (2, .int v2), (4, .int v4), (6, .int v6)]) rfl ?_
          replace h := og_l ev3_134 h
          refine ww_goto B 267 dX8_goLog_137 (by decide) ?_
          refine ww_sub (ws' := [(a_t, .inr (8, [.ref a_may, .ref b_voyage, .ref b_lucky, .ref b_worths, .ref b_ranks, .int x_t_signs, .ref a_pad, .int x_t_day, .int s1, .ref a_bears, .ref a_due, .ref a_borneBy, .ref a_gone, .ref a_sunk, .ref a_times, .int x_t_asked, .ref a_whoBore, .ref b_gives, .ref b_best, .ref b_holds, .ref b_refused, .ref b_sums, .ref b_image, .ref b_isKept])), (a_bears, .inl (cI, 6, .inl q_131.1)), (a_borneBy, .inl (cI, 5, .inl q_131.2.1)), (a_due, .inl (cI, 5, .inl f_due)), (a_gone, .inl (cZ, 5, .inl q_131.2.2.1)), (a_may, .inl (cI, 6, .inl f_may)), (a_pad, .inl (cI, 48, .inl f_pad)), (a_sunk, .inl (cZ, 6, .inl q_131.2.2.2)), (a_times, .inl (cI, 5, .inl f_times)), (a_whoBore, .inl (cI, 5, .inl f_whoBore))]) [5, 6, 7, 0, 8, 1, 2, 9, 3, 4] rfl (by decide) ?_
          refine ww_lsel (lv' := [(0, .ref a_t), (1, .int v1), (2, .int v2), (3, .int v3_134), (4, .int v4)]) [1, 2, 3, 0, 4] rfl ?_
          exact cut_267 _ _ _ _ _ _ _ _ _ _ _ _ _ h
        · replace h := og_f c_122 h
          refine ww_iload B dX8_goLog_125 4 rfl ?_
          exact ww_iret B hA hQ hr dX8_goLog_127 (f_bears, f_borneBy, f_due, f_gone, f_sunk, f_times, f_whoBore, x_t_day, s1) [0, 1, 2, 3, 4, 5, 6, 7, 8, 9] rfl (by decide) (og_p h)
      intro v1 v2 v3 v4 f_bears f_borneBy f_due f_gone f_sunk f_times f_whoBore x_t_day x_t_reason h
      replace h : (if x_t_signs ≤ v3 then (some ((-6), (f_bears, f_borneBy, f_due, f_gone, f_sunk, f_times, f_whoBore, x_t_day, x_t_reason))) else (ogi v3 48 (ogl (f_pad (Int32.toNatClampNeg v3)) (fun (v5_46 : Int32) => if v5_46 = 46 then (ogb (m_X8_nextDay f_due x_t_asked f_bears f_borneBy f_times f_whoBore x_t_day) (fun q_56 => ogl (v3 + 1) (fun (v3_59 : Int32) => (m_X8_goLog_267 (m_X8_goLog_32 f_may f_pad x_t_signs x_t_asked fuel_32) f_may f_pad x_t_signs x_t_asked v1 v2 v3_59 v4 q_56.1 q_56.2.1 f_due f_gone f_sunk q_56.2.2.1 q_56.2.2.2.1 q_56.2.2.2.2 x_t_reason)))) else (if v5_46 = 33 then (ogi (v3 + 1) 48 (ogl ((f_pad (Int32.toNatClampNeg (v3 + 1))) - 97) (fun (v6_83 : Int32) => ogi v6_83 5 (if (f_gone (Int32.toNatClampNeg v6_83)) = 0 then (ogi v6_83 5 (if 0 ≤ (f_borneBy (Int32.toNatClampNeg v6_83)) then ((m_X8_goLog_115 (m_X8_goLog_32 f_may f_pad x_t_signs x_t_asked fuel_32) f_may f_pad x_t_signs x_t_asked v1 v2 v3 v4 v6_83 0 f_bears f_borneBy f_due f_gone f_sunk f_times f_whoBore x_t_day x_t_reason)) else ((m_X8_goLog_115 (m_X8_goLog_32 f_may f_pad x_t_signs x_t_asked fuel_32) f_may f_pad x_t_signs x_t_asked v1 v2 v3 v4 v6_83 4 f_bears f_borneBy f_due f_gone f_sunk f_times f_whoBore x_t_day x_t_reason)))) else ((m_X8_goLog_115 (m_X8_goLog_32 f_may f_pad x_t_signs x_t_asked fuel_32) f_may f_pad x_t_signs x_t_asked v1 v2 v3 v4 v6_83 3 f_bears f_borneBy f_due f_gone f_sunk f_times f_whoBore x_t_day x_t_reason)))))) else (if v5_46 = 63 then (ogn (v2 = 0) ((m_X8_goLog_161 (m_X8_goLog_32 f_may f_pad x_t_signs x_t_asked fuel_32) f_may f_pad x_t_signs x_t_asked v1 v2 v3 v4 v5_46 ((v1 / v2) - (v1 / v2) / 6 * 6) f_bears f_borneBy f_due f_gone f_sunk f_times f_whoBore x_t_day x_t_reason))) else ((m_X8_goLog_161 (m_X8_goLog_32 f_may f_pad x_t_signs x_t_asked fuel_32) f_may f_pad x_t_signs x_t_asked v1 v2 v3 v4 v5_46 (v5_46 - 65) f_bears f_borneBy f_due f_gone f_sunk f_times f_whoBore x_t_day x_t_reason))))))) : Option (Int32 × ((Nat → Int32) × (Nat → Int32) × (Nat → Int32) × (Nat → Int32) × (Nat → Int32) × (Nat → Int32) × (Nat → Int32) × Int32 × Int32))) = some res := h
      refine ww_iload_n B dX8_goLog_32 3 rfl ?_
      refine ww_aload_n B dX8_goLog_33 0 rfl ?_
      refine ww_get (ci := 8) (T := TX8) (C := RX8) (N := 24) B iX8 0 rfl rfl 5 (by decide) (by decide +kernel) rfl rfl dX8_goLog_34 ?_
      refine ww_icmp_ge B 273 dX8_goLog_37 (by decide) (fun c_37 => ?_) (fun c_37 => ?_)
      · replace h := og_t c_37 h
        refine ww_bipush B dX8_goLog_273 (v := (-6)) (by decide) ?_
        exact ww_iret B hA hQ hr dX8_goLog_275 (f_bears, f_borneBy, f_due, f_gone, f_sunk, f_times, f_whoBore, x_t_day, x_t_reason) [0, 1, 2, 3, 4, 5, 6, 7, 8, 9] rfl (by decide) (og_p h)
      · replace h := og_f c_37 h
        refine ww_aload_n B dX8_goLog_40 0 rfl ?_
        refine ww_get (ci := 8) (T := TX8) (C := RX8) (N := 24) B iX8 0 rfl rfl 6 (by decide) (by decide +kernel) rfl rfl dX8_goLog_41 ?_
        refine ww_iload_n B dX8_goLog_44 3 rfl ?_
        obtain ⟨i_45, h⟩ := og_i h
        refine ww_iald B 6 rfl i_45 dX8_goLog_45 ?_
        refine ww_topi (fun v5_46 ev5_46 => ?_)
        replace h := og_l ev5_46 h
        refine ww_istore B dX8_goLog_46 (lv' := [(5, .int v5_46), (0, .ref a_t), (1, .int v1), (2, .int v2), (3, .int v3), (4, .int v4)]) (by decide) rfl ?_
        refine ww_iload B dX8_goLog_48 0 rfl ?_
        refine ww_bipush B dX8_goLog_50 (v := 46) (by decide) ?_
        refine ww_icmp_ne B 65 dX8_goLog_52 (by decide) (fun c_52 => ?_) (fun c_52 => ?_)
        · replace h := og_f c_52 h
          refine ww_iload B dX8_goLog_65 0 rfl ?_
          refine ww_bipush B dX8_goLog_67 (v := 33) (by decide) ?_
          refine ww_icmp_ne B 140 dX8_goLog_69 (by decide) (fun c_69 => ?_) (fun c_69 => ?_)
          · replace h := og_f c_69 h
            refine ww_iload B dX8_goLog_140 0 rfl ?_
            refine ww_bipush B dX8_goLog_142 (v := 63) (by decide) ?_
            refine ww_icmp_ne B 156 dX8_goLog_144 (by decide) (fun c_144 => ?_) (fun c_144 => ?_)
            · replace h := og_f c_144 h
              refine ww_iload B dX8_goLog_156 0 rfl ?_
              refine ww_bipush B dX8_goLog_158 (v := 65) (by decide) ?_
              refine ww_isub B dX8_goLog_160 ?_
              refine ww_lsel (lv' := [(0, .ref a_t), (1, .int v1), (2, .int v2), (3, .int v3), (4, .int v4), (5, .int v5_46)]) [1, 2, 3, 4, 5, 0] rfl ?_
              exact cut_161 _ _ _ _ _ _ _ _ _ _ _ _ _ _ _ h
            · replace h := og_t c_144 h
              refine ww_iload_n B dX8_goLog_147 2 rfl ?_
              refine ww_iload_n B dX8_goLog_148 3 rfl ?_
              obtain ⟨z_149, h⟩ := og_n h
              refine ww_idiv B dX8_goLog_149 z_149 ?_
              refine ww_bipush B dX8_goLog_150 (v := 6) (by decide) ?_
              refine ww_irem B dX8_goLog_152 (by decide) ?_
              refine ww_goto B 161 dX8_goLog_153 (by decide) ?_
              refine ww_lsel (lv' := [(0, .ref a_t), (1, .int v1), (2, .int v2), (3, .int v3), (4, .int v4), (5, .int v5_46)]) [1, 2, 3, 4, 5, 0] rfl ?_
              exact cut_161 _ _ _ _ _ _ _ _ _ _ _ _ _ _ _ h
          · replace h := og_t c_69 h
            refine ww_aload_n B dX8_goLog_72 1 rfl ?_
            refine ww_get (ci := 8) (T := TX8) (C := RX8) (N := 24) B iX8 0 rfl rfl 6 (by decide) (by decide +kernel) rfl rfl dX8_goLog_73 ?_
            refine ww_iload_n B dX8_goLog_76 4 rfl ?_
            refine ww_iconst B dX8_goLog_77 (v := 1) (by decide) ?_
            refine ww_iadd B dX8_goLog_78 ?_
            obtain ⟨i_79, h⟩ := og_i h
            refine ww_iald B 6 rfl i_79 dX8_goLog_79 ?_
            refine ww_bipush B dX8_goLog_80 (v := 97) (by decide) ?_
            refine ww_isub B dX8_goLog_82 ?_
            refine ww_topi (fun v6_83 ev6_83 => ?_)
            replace h := og_l ev6_83 h
            refine ww_istore B dX8_goLog_83 (lv' := [(6, .int v6_83), (5, .int v5_46), (0, .ref a_t), (1, .int v1), (2, .int v2), (3, .int v3), (4, .int v4)]) (by decide) rfl ?_
            refine ww_aload_n B dX8_goLog_85 2 rfl ?_
            refine ww_aload_n B dX8_goLog_86 2 rfl ?_
            refine ww_get (ci := 8) (T := TX8) (C := RX8) (N := 24) B iX8 0 rfl rfl 12 (by decide) (by decide +kernel) rfl rfl dX8_goLog_87 ?_
            refine ww_iload B dX8_goLog_90 0 rfl ?_
            obtain ⟨i_92, h⟩ := og_i h
            refine ww_zald B 4 rfl i_92 dX8_goLog_92 ?_
            refine ww_if_eq B 100 dX8_goLog_93 (by decide) (fun c_93 => ?_) (fun c_93 => ?_)
            · replace h := og_t c_93 h
              refine ww_aload_n B dX8_goLog_100 2 rfl ?_
              refine ww_get (ci := 8) (T := TX8) (C := RX8) (N := 24) B iX8 0 rfl rfl 11 (by decide) (by decide +kernel) rfl rfl dX8_goLog_101 ?_
              refine ww_iload B dX8_goLog_104 0 rfl ?_
              obtain ⟨i_106, h⟩ := og_i h
              refine ww_iald B 2 rfl i_106 dX8_goLog_106 ?_
              refine ww_if_ge B 114 dX8_goLog_107 (by decide) (fun c_107 => ?_) (fun c_107 => ?_)
              · replace h := og_t c_107 h
                refine ww_iconst B dX8_goLog_114 (v := 0) (by decide) ?_
                refine ww_lsel (lv' := [(0, .ref a_t), (1, .int v1), (2, .int v2), (3, .int v3), (4, .int v4), (6, .int v6_83)]) [2, 3, 4, 5, 6, 0] rfl ?_
                exact cut_115 _ _ _ _ _ _ _ _ _ _ _ _ _ _ _ h
              · replace h := og_f c_107 h
                refine ww_iconst B dX8_goLog_110 (v := 4) (by decide) ?_
                refine ww_goto B 115 dX8_goLog_111 (by decide) ?_
                refine ww_lsel (lv' := [(0, .ref a_t), (1, .int v1), (2, .int v2), (3, .int v3), (4, .int v4), (6, .int v6_83)]) [2, 3, 4, 5, 6, 0] rfl ?_
                exact cut_115 _ _ _ _ _ _ _ _ _ _ _ _ _ _ _ h
            · replace h := og_f c_93 h
              refine ww_iconst B dX8_goLog_96 (v := 3) (by decide) ?_
              refine ww_goto B 115 dX8_goLog_97 (by decide) ?_
              refine ww_lsel (lv' := [(0, .ref a_t), (1, .int v1), (2, .int v2), (3, .int v3), (4, .int v4), (6, .int v6_83)]) [2, 3, 4, 5, 6, 0] rfl ?_
              exact cut_115 _ _ _ _ _ _ _ _ _ _ _ _ _ _ _ h
        · replace h := og_t c_52 h
          refine ww_aload_n B dX8_goLog_55 1 rfl ?_
          obtain ⟨q_56, hq_56, h⟩ := og_b h
          refine ww_cvM B (k' := 0) (n' := 0) rfl rfl [0, 1, 2, 3, 8, 9] [4, 5, 6, 7] (wr := [(a_gone, .inl (cZ, 5, .inl f_gone)), (a_may, .inl (cI, 6, .inl f_may)), (a_pad, .inl (cI, 48, .inl f_pad)), (a_sunk, .inl (cZ, 6, .inl f_sunk))]) (st := []) rfl rfl (by decide) (rr_V B (c_X8_nextDay l D cI cZ a_t a_bears a_borneBy a_due a_times a_whoBore a_may b_voyage b_lucky b_worths b_ranks a_pad a_gone a_sunk b_gives b_best b_holds b_refused b_sums b_image b_isKept f_bears f_borneBy f_due f_times f_whoBore x_t_signs x_t_day x_t_reason x_t_asked hq_56) gX8_goLog_X8_nextDay rfl rfl rfl (N := 0) rfl (by decide +kernel) ⟨Nat.le_of_ble_eq_true rfl, Nat.le_of_ble_eq_true rfl⟩ rfl dX8_goLog_56 0 rfl rfl (Nat.le_of_ble_eq_true rfl) ⟨Nat.le_of_ble_eq_true rfl, Nat.le_of_ble_eq_true rfl⟩) (ws' := [(a_gone, .inl (cZ, 5, .inl f_gone)), (a_may, .inl (cI, 6, .inl f_may)), (a_pad, .inl (cI, 48, .inl f_pad)), (a_sunk, .inl (cZ, 6, .inl f_sunk)), (a_t, .inr (8, [.ref a_may, .ref b_voyage, .ref b_lucky, .ref b_worths, .ref b_ranks, .int x_t_signs, .ref a_pad, .int q_56.2.2.2.2, .int x_t_reason, .ref a_bears, .ref a_due, .ref a_borneBy, .ref a_gone, .ref a_sunk, .ref a_times, .int x_t_asked, .ref a_whoBore, .ref b_gives, .ref b_best, .ref b_holds, .ref b_refused, .ref b_sums, .ref b_image, .ref b_isKept])), (a_bears, .inl (cI, 6, .inl q_56.1)), (a_borneBy, .inl (cI, 5, .inl q_56.2.1)), (a_due, .inl (cI, 5, .inl f_due)), (a_times, .inl (cI, 5, .inl q_56.2.2.1)), (a_whoBore, .inl (cI, 5, .inl q_56.2.2.2.1))]) rfl ?_
          obtain ⟨v3_59, ev3_59⟩ : ∃ y : Int32, y = (v3 + 1) := ⟨_, rfl⟩
          refine ww_iinc B dX8_goLog_59 4 rfl (v := v3_59) (by rw [ev3_59]; rfl) (by decide) (lv' := [(3, .int v3_59), (5, .int v5_46), (0, .ref a_t), (1, .int v1), (2, .int v2), (4, .int v4)]) rfl ?_
          replace h := og_l ev3_59 h
          refine ww_goto B 267 dX8_goLog_62 (by decide) ?_
          refine ww_sub (ws' := [(a_t, .inr (8, [.ref a_may, .ref b_voyage, .ref b_lucky, .ref b_worths, .ref b_ranks, .int x_t_signs, .ref a_pad, .int q_56.2.2.2.2, .int x_t_reason, .ref a_bears, .ref a_due, .ref a_borneBy, .ref a_gone, .ref a_sunk, .ref a_times, .int x_t_asked, .ref a_whoBore, .ref b_gives, .ref b_best, .ref b_holds, .ref b_refused, .ref b_sums, .ref b_image, .ref b_isKept])), (a_bears, .inl (cI, 6, .inl q_56.1)), (a_borneBy, .inl (cI, 5, .inl q_56.2.1)), (a_due, .inl (cI, 5, .inl f_due)), (a_gone, .inl (cZ, 5, .inl f_gone)), (a_may, .inl (cI, 6, .inl f_may)), (a_pad, .inl (cI, 48, .inl f_pad)), (a_sunk, .inl (cZ, 6, .inl f_sunk)), (a_times, .inl (cI, 5, .inl q_56.2.2.1)), (a_whoBore, .inl (cI, 5, .inl q_56.2.2.2.1))]) [4, 5, 6, 7, 0, 1, 2, 3, 8, 9] rfl (by decide) ?_
          refine ww_lsel (lv' := [(0, .ref a_t), (1, .int v1), (2, .int v2), (3, .int v3_59), (4, .int v4)]) [2, 3, 4, 0, 5] rfl ?_
          exact cut_267 _ _ _ _ _ _ _ _ _ _ _ _ _ h
  have cut_8 : ∀ (fuel : Nat) (v1 : Int32) (v2 : Int32) (v3 : Int32) (f_bears : (Nat → Int32)) (f_borneBy : (Nat → Int32)) (f_due : (Nat → Int32)) (f_gone : (Nat → Int32)) (f_sunk : (Nat → Int32)) (f_times : (Nat → Int32)) (f_whoBore : (Nat → Int32)) (x_t_day : Int32) (x_t_reason : Int32), m_X8_goLog_8 f_may f_pad x_t_signs x_t_asked fuel v1 v2 v3 f_bears f_borneBy f_due f_gone f_sunk f_times f_whoBore x_t_day x_t_reason = some res → WW p l e (headSpec wsX8_goLog ({ frames := 2, cells := 0, slots := 0, locals := 43 } : Room)).room s m args below meth c D A 8 0 0 Q [(a_t, .inr (8, [.ref a_may, .ref b_voyage, .ref b_lucky, .ref b_worths, .ref b_ranks, .int x_t_signs, .ref a_pad, .int x_t_day, .int x_t_reason, .ref a_bears, .ref a_due, .ref a_borneBy, .ref a_gone, .ref a_sunk, .ref a_times, .int x_t_asked, .ref a_whoBore, .ref b_gives, .ref b_best, .ref b_holds, .ref b_refused, .ref b_sums, .ref b_image, .ref b_isKept])), (a_bears, .inl (cI, 6, .inl f_bears)), (a_borneBy, .inl (cI, 5, .inl f_borneBy)), (a_due, .inl (cI, 5, .inl f_due)), (a_gone, .inl (cZ, 5, .inl f_gone)), (a_may, .inl (cI, 6, .inl f_may)), (a_pad, .inl (cI, 48, .inl f_pad)), (a_sunk, .inl (cZ, 6, .inl f_sunk)), (a_times, .inl (cI, 5, .inl f_times)), (a_whoBore, .inl (cI, 5, .inl f_whoBore))] [(0, .ref a_t), (1, .int v1), (2, .int v2), (3, .int v3)] [] 8 := by
    intro fuel_8
    induction fuel_8 with
    | zero => intro v1 v2 v3 f_bears f_borneBy f_due f_gone f_sunk f_times f_whoBore x_t_day x_t_reason h; exact og_0 h
    | succ fuel_8 ih_8 =>
      intro v1 v2 v3 f_bears f_borneBy f_due f_gone f_sunk f_times f_whoBore x_t_day x_t_reason h
      replace h : (ogb (m_X8_opens f_pad x_t_signs) (fun q_10 => if q_10 ≤ v3 then ((m_X8_goLog_32 f_may f_pad x_t_signs x_t_asked 1000000 v1 v2 0 0 f_bears f_borneBy f_due f_gone f_sunk f_times f_whoBore x_t_day x_t_reason)) else (ogl (v2 * 6) (fun (v2_20 : Int32) => ogl (v3 + 1) (fun (v3_21 : Int32) => ((m_X8_goLog_8 f_may f_pad x_t_signs x_t_asked fuel_8) v1 v2_20 v3_21 f_bears f_borneBy f_due f_gone f_sunk f_times f_whoBore x_t_day x_t_reason))))) : Option (Int32 × ((Nat → Int32) × (Nat → Int32) × (Nat → Int32) × (Nat → Int32) × (Nat → Int32) × (Nat → Int32) × (Nat → Int32) × Int32 × Int32))) = some res := h
      refine ww_iload_n B dX8_goLog_8 3 rfl ?_
      refine ww_aload_n B dX8_goLog_9 0 rfl ?_
      obtain ⟨q_10, hq_10, h⟩ := og_b h
      refine ww_ci0 B (k' := 0) (n' := 0) rfl rfl [0, 6] [1, 2, 3, 4, 5, 7, 8, 9] (wr := [(a_bears, .inl (cI, 6, .inl f_bears)), (a_borneBy, .inl (cI, 5, .inl f_borneBy)), (a_due, .inl (cI, 5, .inl f_due)), (a_gone, .inl (cZ, 5, .inl f_gone)), (a_may, .inl (cI, 6, .inl f_may)), (a_sunk, .inl (cZ, 6, .inl f_sunk)), (a_times, .inl (cI, 5, .inl f_times)), (a_whoBore, .inl (cI, 5, .inl f_whoBore))]) (st := [.int v3]) rfl rfl (by decide) (rr_V B (c_X8_opens l D cI cZ a_t a_pad a_may b_voyage b_lucky b_worths b_ranks a_bears a_due a_borneBy a_gone a_sunk a_times a_whoBore b_gives b_best b_holds b_refused b_sums b_image b_isKept f_pad x_t_signs x_t_day x_t_reason x_t_asked hq_10) gX8_goLog_X8_opens rfl rfl rfl (N := 0) rfl (by decide +kernel) ⟨Nat.le_of_ble_eq_true rfl, Nat.le_of_ble_eq_true rfl⟩ rfl dX8_goLog_10 0 rfl rfl (Nat.le_of_ble_eq_true rfl) ⟨Nat.le_of_ble_eq_true rfl, Nat.le_of_ble_eq_true rfl⟩) (ws' := [(a_bears, .inl (cI, 6, .inl f_bears)), (a_borneBy, .inl (cI, 5, .inl f_borneBy)), (a_due, .inl (cI, 5, .inl f_due)), (a_gone, .inl (cZ, 5, .inl f_gone)), (a_may, .inl (cI, 6, .inl f_may)), (a_sunk, .inl (cZ, 6, .inl f_sunk)), (a_times, .inl (cI, 5, .inl f_times)), (a_whoBore, .inl (cI, 5, .inl f_whoBore)), (a_t, .inr (8, [.ref a_may, .ref b_voyage, .ref b_lucky, .ref b_worths, .ref b_ranks, .int x_t_signs, .ref a_pad, .int x_t_day, .int x_t_reason, .ref a_bears, .ref a_due, .ref a_borneBy, .ref a_gone, .ref a_sunk, .ref a_times, .int x_t_asked, .ref a_whoBore, .ref b_gives, .ref b_best, .ref b_holds, .ref b_refused, .ref b_sums, .ref b_image, .ref b_isKept])), (a_pad, .inl (cI, 48, .inl f_pad))]) rfl ?_
      refine ww_icmp_ge B 27 dX8_goLog_13 (by decide) (fun c_13 => ?_) (fun c_13 => ?_)
      · replace h := og_t c_13 h
        refine ww_iconst B dX8_goLog_27 (v := 0) (by decide) ?_
        refine ww_istore_n B dX8_goLog_28 (lv' := [(3, .int 0), (0, .ref a_t), (1, .int v1), (2, .int v2)]) (by decide) rfl ?_
        refine ww_iconst B dX8_goLog_29 (v := 0) (by decide) ?_
        refine ww_istore B dX8_goLog_30 (lv' := [(4, .int 0), (3, .int 0), (0, .ref a_t), (1, .int v1), (2, .int v2)]) (by decide) rfl ?_
        refine ww_sub (ws' := [(a_t, .inr (8, [.ref a_may, .ref b_voyage, .ref b_lucky, .ref b_worths, .ref b_ranks, .int x_t_signs, .ref a_pad, .int x_t_day, .int x_t_reason, .ref a_bears, .ref a_due, .ref a_borneBy, .ref a_gone, .ref a_sunk, .ref a_times, .int x_t_asked, .ref a_whoBore, .ref b_gives, .ref b_best, .ref b_holds, .ref b_refused, .ref b_sums, .ref b_image, .ref b_isKept])), (a_bears, .inl (cI, 6, .inl f_bears)), (a_borneBy, .inl (cI, 5, .inl f_borneBy)), (a_due, .inl (cI, 5, .inl f_due)), (a_gone, .inl (cZ, 5, .inl f_gone)), (a_may, .inl (cI, 6, .inl f_may)), (a_pad, .inl (cI, 48, .inl f_pad)), (a_sunk, .inl (cZ, 6, .inl f_sunk)), (a_times, .inl (cI, 5, .inl f_times)), (a_whoBore, .inl (cI, 5, .inl f_whoBore))]) [8, 0, 1, 2, 3, 4, 9, 5, 6, 7] rfl (by decide) ?_
        refine ww_lsel (lv' := [(0, .ref a_t), (1, .int v1), (2, .int v2), (3, .int 0), (4, .int 0)]) [2, 3, 4, 1, 0] rfl ?_
        exact cut_32 _ _ _ _ _ _ _ _ _ _ _ _ _ _ h
      · replace h := og_f c_13 h
        refine ww_iload_n B dX8_goLog_16 2 rfl ?_
        refine ww_bipush B dX8_goLog_17 (v := 6) (by decide) ?_
        refine ww_imul B dX8_goLog_19 ?_
        refine ww_topi (fun v2_20 ev2_20 => ?_)
        replace h := og_l ev2_20 h
        refine ww_istore_n B dX8_goLog_20 (lv' := [(2, .int v2_20), (0, .ref a_t), (1, .int v1), (3, .int v3)]) (by decide) rfl ?_
        obtain ⟨v3_21, ev3_21⟩ : ∃ y : Int32, y = (v3 + 1) := ⟨_, rfl⟩
        refine ww_iinc B dX8_goLog_21 3 rfl (v := v3_21) (by rw [ev3_21]; rfl) (by decide) (lv' := [(3, .int v3_21), (2, .int v2_20), (0, .ref a_t), (1, .int v1)]) rfl ?_
        replace h := og_l ev3_21 h
        refine ww_goto B 8 dX8_goLog_24 (by decide) ?_
        refine ww_sub (ws' := [(a_t, .inr (8, [.ref a_may, .ref b_voyage, .ref b_lucky, .ref b_worths, .ref b_ranks, .int x_t_signs, .ref a_pad, .int x_t_day, .int x_t_reason, .ref a_bears, .ref a_due, .ref a_borneBy, .ref a_gone, .ref a_sunk, .ref a_times, .int x_t_asked, .ref a_whoBore, .ref b_gives, .ref b_best, .ref b_holds, .ref b_refused, .ref b_sums, .ref b_image, .ref b_isKept])), (a_bears, .inl (cI, 6, .inl f_bears)), (a_borneBy, .inl (cI, 5, .inl f_borneBy)), (a_due, .inl (cI, 5, .inl f_due)), (a_gone, .inl (cZ, 5, .inl f_gone)), (a_may, .inl (cI, 6, .inl f_may)), (a_pad, .inl (cI, 48, .inl f_pad)), (a_sunk, .inl (cZ, 6, .inl f_sunk)), (a_times, .inl (cI, 5, .inl f_times)), (a_whoBore, .inl (cI, 5, .inl f_whoBore))]) [8, 0, 1, 2, 3, 4, 9, 5, 6, 7] rfl (by decide) ?_
        refine ww_lsel (lv' := [(0, .ref a_t), (1, .int v1), (2, .int v2_20), (3, .int v3_21)]) [2, 3, 1, 0] rfl ?_
        exact ih_8 _ _ _ _ _ _ _ _ _ _ _ _ h
  refine ww_aload_n B dX8_goLog_0 0 rfl ?_
  obtain ⟨q_1, hq_1, h⟩ := og_b h
  refine ww_cvM B (k' := 0) (n' := 0) rfl rfl [0, 1, 2, 3, 4, 7, 8, 9] [5, 6] (wr := [(a_may, .inl (cI, 6, .inl f_may)), (a_pad, .inl (cI, 48, .inl f_pad))]) (st := []) rfl rfl (by decide) (rr_V B (c_X8_beginLog l D cI cZ a_t a_bears a_borneBy a_due a_gone a_sunk a_times a_whoBore a_may b_voyage b_lucky b_worths b_ranks a_pad b_gives b_best b_holds b_refused b_sums b_image b_isKept f_bears f_borneBy f_due f_gone f_sunk f_times f_whoBore x_t_signs x_t_day x_t_reason x_t_asked hq_1) gX8_goLog_X8_beginLog rfl rfl rfl (N := 0) rfl (by decide +kernel) ⟨Nat.le_of_ble_eq_true rfl, Nat.le_of_ble_eq_true rfl⟩ rfl dX8_goLog_1 0 rfl rfl (Nat.le_of_ble_eq_true rfl) ⟨Nat.le_of_ble_eq_true rfl, Nat.le_of_ble_eq_true rfl⟩) (ws' := [(a_may, .inl (cI, 6, .inl f_may)), (a_pad, .inl (cI, 48, .inl f_pad)), (a_t, .inr (8, [.ref a_may, .ref b_voyage, .ref b_lucky, .ref b_worths, .ref b_ranks, .int x_t_signs, .ref a_pad, .int q_1.2.2.2.2.2.2.2.1, .int q_1.2.2.2.2.2.2.2.2, .ref a_bears, .ref a_due, .ref a_borneBy, .ref a_gone, .ref a_sunk, .ref a_times, .int x_t_asked, .ref a_whoBore, .ref b_gives, .ref b_best, .ref b_holds, .ref b_refused, .ref b_sums, .ref b_image, .ref b_isKept])), (a_bears, .inl (cI, 6, .inl q_1.1)), (a_borneBy, .inl (cI, 5, .inl q_1.2.1)), (a_due, .inl (cI, 5, .inl q_1.2.2.1)), (a_gone, .inl (cZ, 5, .inl q_1.2.2.2.1)), (a_sunk, .inl (cZ, 6, .inl q_1.2.2.2.2.1)), (a_times, .inl (cI, 5, .inl q_1.2.2.2.2.2.1)), (a_whoBore, .inl (cI, 5, .inl q_1.2.2.2.2.2.2.1))]) rfl ?_
  refine ww_iconst B dX8_goLog_4 (v := 1) (by decide) ?_
  refine ww_istore_n B dX8_goLog_5 (lv' := [(2, .int 1), (0, .ref a_t), (1, .int v1)]) (by decide) rfl ?_
  refine ww_iconst B dX8_goLog_6 (v := 1) (by decide) ?_
  refine ww_istore_n B dX8_goLog_7 (lv' := [(3, .int 1), (2, .int 1), (0, .ref a_t), (1, .int v1)]) (by decide) rfl ?_
  refine ww_sub (ws' := [(a_t, .inr (8, [.ref a_may, .ref b_voyage, .ref b_lucky, .ref b_worths, .ref b_ranks, .int x_t_signs, .ref a_pad, .int q_1.2.2.2.2.2.2.2.1, .int q_1.2.2.2.2.2.2.2.2, .ref a_bears, .ref a_due, .ref a_borneBy, .ref a_gone, .ref a_sunk, .ref a_times, .int x_t_asked, .ref a_whoBore, .ref b_gives, .ref b_best, .ref b_holds, .ref b_refused, .ref b_sums, .ref b_image, .ref b_isKept])), (a_bears, .inl (cI, 6, .inl q_1.1)), (a_borneBy, .inl (cI, 5, .inl q_1.2.1)), (a_due, .inl (cI, 5, .inl q_1.2.2.1)), (a_gone, .inl (cZ, 5, .inl q_1.2.2.2.1)), (a_may, .inl (cI, 6, .inl f_may)), (a_pad, .inl (cI, 48, .inl f_pad)), (a_sunk, .inl (cZ, 6, .inl q_1.2.2.2.2.1)), (a_times, .inl (cI, 5, .inl q_1.2.2.2.2.2.1)), (a_whoBore, .inl (cI, 5, .inl q_1.2.2.2.2.2.2.1))]) [2, 3, 4, 5, 6, 0, 1, 7, 8, 9] rfl (by decide) ?_
  refine ww_lsel (lv' := [(0, .ref a_t), (1, .int v1), (2, .int 1), (3, .int 1)]) [2, 3, 1, 0] rfl ?_
  exact cut_8 _ _ _ _ _ _ _ _ _ _ _ _ _ h
noncomputable def m_X8_could_91 (k46 : Int32 → Int32 → Int32 → Int32 → (Nat → Int32) → (Nat → Int32) → (Nat → Int32) → (Nat → Int32) → (Nat → Int32) → (Nat → Int32) → (Nat → Int32) → Int32 → Int32 → Int32 → Option (Int32 × ((Nat → Int32) × (Nat → Int32) × (Nat → Int32) × (Nat → Int32) × (Nat → Int32) × (Nat → Int32) × (Nat → Int32) × Int32 × Int32 × Int32))) (f_may : (Nat → Int32)) (f_pad : (Nat → Int32)) (x_t_signs : Int32) (v1 : Int32) (v3 : Int32) (v4 : Int32) (v5 : Int32) (f_bears : (Nat → Int32)) (f_borneBy : (Nat → Int32)) (f_due : (Nat → Int32)) (f_gone : (Nat → Int32)) (f_sunk : (Nat → Int32)) (f_times : (Nat → Int32)) (f_whoBore : (Nat → Int32)) (x_t_asked : Int32) (x_t_day : Int32) (x_t_reason : Int32) : Option (Int32 × ((Nat → Int32) × (Nat → Int32) × (Nat → Int32) × (Nat → Int32) × (Nat → Int32) × (Nat → Int32) × (Nat → Int32) × Int32 × Int32 × Int32)) := ogl (v5 + 1) (fun (v5_91 : Int32) => (k46 v1 v3 v4 v5_91 f_bears f_borneBy f_due f_gone f_sunk f_times f_whoBore x_t_asked x_t_day x_t_reason))
noncomputable def m_X8_could_89 (k46 : Int32 → Int32 → Int32 → Int32 → (Nat → Int32) → (Nat → Int32) → (Nat → Int32) → (Nat → Int32) → (Nat → Int32) → (Nat → Int32) → (Nat → Int32) → Int32 → Int32 → Int32 → Option (Int32 × ((Nat → Int32) × (Nat → Int32) × (Nat → Int32) × (Nat → Int32) × (Nat → Int32) × (Nat → Int32) × (Nat → Int32) × Int32 × Int32 × Int32))) (f_may : (Nat → Int32)) (f_pad : (Nat → Int32)) (x_t_signs : Int32) (v1 : Int32) (v4 : Int32) (v5 : Int32) (s0 : Int32) (s1 : Int32) (f_bears : (Nat → Int32)) (f_borneBy : (Nat → Int32)) (f_due : (Nat → Int32)) (f_gone : (Nat → Int32)) (f_sunk : (Nat → Int32)) (f_times : (Nat → Int32)) (f_whoBore : (Nat → Int32)) (x_t_asked : Int32) (x_t_day : Int32) (x_t_reason : Int32) : Option (Int32 × ((Nat → Int32) × (Nat → Int32) × (Nat → Int32) × (Nat → Int32) × (Nat → Int32) × (Nat → Int32) × (Nat → Int32) × Int32 × Int32 × Int32)) := ogl (s0 ||| s1) (fun (v3_90 : Int32) => (m_X8_could_91 k46 f_may f_pad x_t_signs v1 v3_90 v4 v5 f_bears f_borneBy f_due f_gone f_sunk f_times f_whoBore x_t_asked x_t_day x_t_reason))
noncomputable def m_X8_could_46b (k46 : Int32 → Int32 → Int32 → Int32 → (Nat → Int32) → (Nat → Int32) → (Nat → Int32) → (Nat → Int32) → (Nat → Int32) → (Nat → Int32) → (Nat → Int32) → Int32 → Int32 → Int32 → Option (Int32 × ((Nat → Int32) × (Nat → Int32) × (Nat → Int32) × (Nat → Int32) × (Nat → Int32) × (Nat → Int32) × (Nat → Int32) × Int32 × Int32 × Int32))) (f_may : (Nat → Int32)) (f_pad : (Nat → Int32)) (x_t_signs : Int32) (v1 : Int32) (v3 : Int32) (v4 : Int32) (v5 : Int32) (f_bears : (Nat → Int32)) (f_borneBy : (Nat → Int32)) (f_due : (Nat → Int32)) (f_gone : (Nat → Int32)) (f_sunk : (Nat → Int32)) (f_times : (Nat → Int32)) (f_whoBore : (Nat → Int32)) (x_t_asked : Int32) (x_t_day : Int32) (x_t_reason : Int32) : Option (Int32 × ((Nat → Int32) × (Nat → Int32) × (Nat → Int32) × (Nat → Int32) × (Nat → Int32) × (Nat → Int32) × (Nat → Int32) × Int32 × Int32 × Int32)) := ogb (m_X8_codes f_pad x_t_signs) (fun q_49 => if q_49 ≤ v5 then (if v4 = 0 then (some ((-3), (f_bears, f_borneBy, f_due, f_gone, f_sunk, f_times, f_whoBore, x_t_asked, x_t_day, x_t_reason))) else (some (v3, (f_bears, f_borneBy, f_due, f_gone, f_sunk, f_times, f_whoBore, x_t_asked, x_t_day, x_t_reason)))) else (ogb (m_X8_goLog f_may f_pad x_t_signs x_t_asked f_bears f_borneBy f_due f_gone f_sunk f_times f_whoBore x_t_day x_t_reason v5) (fun q_58 => if 0 ≤ q_58.1 then ((m_X8_could_91 k46 f_may f_pad x_t_signs v1 v3 v4 v5 q_58.2.1 q_58.2.2.1 q_58.2.2.2.1 q_58.2.2.2.2.1 q_58.2.2.2.2.2.1 q_58.2.2.2.2.2.2.1 q_58.2.2.2.2.2.2.2.1 x_t_asked q_58.2.2.2.2.2.2.2.2.1 q_58.2.2.2.2.2.2.2.2.2)) else (ogi v1 5 (if (q_58.2.2.2.2.2.2.2.1 (Int32.toNatClampNeg v1)) < 0 then ((m_X8_could_89 k46 f_may f_pad x_t_signs v1 1 v5 v3 0 q_58.2.1 q_58.2.2.1 q_58.2.2.2.1 q_58.2.2.2.2.1 q_58.2.2.2.2.2.1 q_58.2.2.2.2.2.2.1 q_58.2.2.2.2.2.2.2.1 x_t_asked q_58.2.2.2.2.2.2.2.2.1 q_58.2.2.2.2.2.2.2.2.2)) else (ogi v1 5 ((m_X8_could_89 k46 f_may f_pad x_t_signs v1 1 v5 v3 ((1 : Int32) <<< (((q_58.2.2.2.2.2.2.2.1 (Int32.toNatClampNeg v1)) : Int32) &&& 31)) q_58.2.1 q_58.2.2.1 q_58.2.2.2.1 q_58.2.2.2.2.1 q_58.2.2.2.2.2.1 q_58.2.2.2.2.2.2.1 q_58.2.2.2.2.2.2.2.1 x_t_asked q_58.2.2.2.2.2.2.2.2.1 q_58.2.2.2.2.2.2.2.2.2))))))))
noncomputable def m_X8_could_46 (f_may : (Nat → Int32)) (f_pad : (Nat → Int32)) (x_t_signs : Int32) (fuel : Nat) : Int32 → Int32 → Int32 → Int32 → (Nat → Int32) → (Nat → Int32) → (Nat → Int32) → (Nat → Int32) → (Nat → Int32) → (Nat → Int32) → (Nat → Int32) → Int32 → Int32 → Int32 → Option (Int32 × ((Nat → Int32) × (Nat → Int32) × (Nat → Int32) × (Nat → Int32) × (Nat → Int32) × (Nat → Int32) × (Nat → Int32) × Int32 × Int32 × Int32)) := Nat.rec (fun _ _ _ _ _ _ _ _ _ _ _ _ _ _ => none) (fun _ k46 => m_X8_could_46b k46 f_may f_pad x_t_signs) fuel
noncomputable def m_X8_could (f_may : (Nat → Int32)) (f_pad : (Nat → Int32)) (x_t_signs : Int32) (f_bears : (Nat → Int32)) (f_borneBy : (Nat → Int32)) (f_due : (Nat → Int32)) (f_gone : (Nat → Int32)) (f_sunk : (Nat → Int32)) (f_times : (Nat → Int32)) (f_whoBore : (Nat → Int32)) (x_t_asked : Int32) (x_t_day : Int32) (x_t_reason : Int32) (v1 : Int32) (v2 : Int32) : Option (Int32 × ((Nat → Int32) × (Nat → Int32) × (Nat → Int32) × (Nat → Int32) × (Nat → Int32) × (Nat → Int32) × (Nat → Int32) × Int32 × Int32 × Int32)) := ogb (m_X8_isName v1) (fun q_1 => if q_1 = 0 then (some ((-1), (f_bears, f_borneBy, f_due, f_gone, f_sunk, f_times, f_whoBore, x_t_asked, x_t_day, x_t_reason))) else (if 0 ≤ v2 then (ogb (m_X8_faultOf f_pad x_t_signs) (fun q_14 => if q_14 < 0 then (ogb (m_X8_lastDay f_pad x_t_signs) (fun q_25 => if v2 ≤ q_25 then ((m_X8_could_46 f_may f_pad x_t_signs 1000000 v1 0 0 0 f_bears f_borneBy f_due f_gone f_sunk f_times f_whoBore v2 x_t_day x_t_reason)) else (some ((-1), (f_bears, f_borneBy, f_due, f_gone, f_sunk, f_times, f_whoBore, x_t_asked, x_t_day, x_t_reason))))) else (some ((-5), (f_bears, f_borneBy, f_due, f_gone, f_sunk, f_times, f_whoBore, x_t_asked, x_t_day, x_t_reason))))) else (some ((-1), (f_bears, f_borneBy, f_due, f_gone, f_sunk, f_times, f_whoBore, x_t_asked, x_t_day, x_t_reason)))))
set_option maxHeartbeats 4000000 in
set_option maxRecDepth 100000 in
theorem c_X8_could (l : Launch) (D : va_G) (cI cZ : ClassId) (a_t a_bears a_borneBy a_due a_gone a_may a_pad a_sunk a_times a_whoBore b_voyage b_lucky b_worths b_ranks b_gives b_best b_holds b_refused b_sums b_image b_isKept : Nat) (f_bears : (Nat → Int32)) (f_borneBy : (Nat → Int32)) (f_due : (Nat → Int32)) (f_gone : (Nat → Int32)) (f_may : (Nat → Int32)) (f_pad : (Nat → Int32)) (f_sunk : (Nat → Int32)) (f_times : (Nat → Int32)) (f_whoBore : (Nat → Int32)) (x_t_signs : Int32) (x_t_day : Int32) (x_t_reason : Int32) (x_t_asked : Int32) (v1 : Int32) (v2 : Int32) {res : (Int32 × ((Nat → Int32) × (Nat → Int32) × (Nat → Int32) × (Nat → Int32) × (Nat → Int32) × (Nat → Int32) × (Nat → Int32) × Int32 × Int32 × Int32))} (h : m_X8_could f_may f_pad x_t_signs f_bears f_borneBy f_due f_gone f_sunk f_times f_whoBore x_t_asked x_t_day x_t_reason v1 v2 = some res) : CT l yX8_could wsX8_could ({ frames := 3, cells := 0, slots := 0, locals := 70 } : Room) D cI cZ [.ref a_t, .int v1, .int v2] [(a_t, .inr (8, [.ref a_may, .ref b_voyage, .ref b_lucky, .ref b_worths, .ref b_ranks, .int x_t_signs, .ref a_pad, .int x_t_day, .int x_t_reason, .ref a_bears, .ref a_due, .ref a_borneBy, .ref a_gone, .ref a_sunk, .ref a_times, .int x_t_asked, .ref a_whoBore, .ref b_gives, .ref b_best, .ref b_holds, .ref b_refused, .ref b_sums, .ref b_image, .ref b_isKept])), (a_bears, .inl (cI, 6, .inl f_bears)), (a_borneBy, .inl (cI, 5, .inl f_borneBy)), (a_due, .inl (cI, 5, .inl f_due)), (a_gone, .inl (cZ, 5, .inl f_gone)), (a_may, .inl (cI, 6, .inl f_may)), (a_pad, .inl (cI, 48, .inl f_pad)), (a_sunk, .inl (cZ, 6, .inl f_sunk)), (a_times, .inl (cI, 5, .inl f_times)), (a_whoBore, .inl (cI, 5, .inl f_whoBore))] (QI D [(a_t, .inr (8, [.ref a_may, .ref b_voyage, .ref b_lucky, .ref b_worths, .ref b_ranks, .int x_t_signs, .ref a_pad, .int x_t_day, .int x_t_reason, .ref a_bears, .ref a_due, .ref a_borneBy, .ref a_gone, .ref a_sunk, .ref a_times, .int x_t_asked, .ref a_whoBore, .ref b_gives, .ref b_best, .ref b_holds, .ref b_refused, .ref b_sums, .ref b_image, .ref b_isKept])), (a_bears, .inl (cI, 6, .inl f_bears)), (a_borneBy, .inl (cI, 5, .inl f_borneBy)), (a_due, .inl (cI, 5, .inl f_due)), (a_gone, .inl (cZ, 5, .inl f_gone)), (a_may, .inl (cI, 6, .inl f_may)), (a_pad, .inl (cI, 48, .inl f_pad)), (a_sunk, .inl (cZ, 6, .inl f_sunk)), (a_times, .inl (cI, 5, .inl f_times)), (a_whoBore, .inl (cI, 5, .inl f_whoBore))] (fun (r : Int32) (u : (Nat → Int32) × (Nat → Int32) × (Nat → Int32) × (Nat → Int32) × (Nat → Int32) × (Nat → Int32) × (Nat → Int32) × Int32 × Int32 × Int32) => r = res.1 ∧ u = res.2) (fun (u : (Nat → Int32) × (Nat → Int32) × (Nat → Int32) × (Nat → Int32) × (Nat → Int32) × (Nat → Int32) × (Nat → Int32) × Int32 × Int32 × Int32) => [(a_t, .inr (8, [.ref a_may, .ref b_voyage, .ref b_lucky, .ref b_worths, .ref b_ranks, .int x_t_signs, .ref a_pad, .int u.2.2.2.2.2.2.2.2.1, .int u.2.2.2.2.2.2.2.2.2, .ref a_bears, .ref a_due, .ref a_borneBy, .ref a_gone, .ref a_sunk, .ref a_times, .int u.2.2.2.2.2.2.2.1, .ref a_whoBore, .ref b_gives, .ref b_best, .ref b_holds, .ref b_refused, .ref b_sums, .ref b_image, .ref b_isKept])), (a_bears, .inl (cI, 6, .inl u.1)), (a_borneBy, .inl (cI, 5, .inl u.2.1)), (a_due, .inl (cI, 5, .inl u.2.2.1)), (a_gone, .inl (cZ, 5, .inl u.2.2.2.1)), (a_may, .inl (cI, 6, .inl f_may)), (a_pad, .inl (cI, 48, .inl f_pad)), (a_sunk, .inl (cZ, 6, .inl u.2.2.2.2.1)), (a_times, .inl (cI, 5, .inl u.2.2.2.2.2.1)), (a_whoBore, .inl (cI, 5, .inl u.2.2.2.2.2.2.1))])) 0 0 := by
  have h : (ogb (m_X8_isName v1) (fun q_1 => if q_1 = 0 then (some ((-1), (f_bears, f_borneBy, f_due, f_gone, f_sunk, f_times, f_whoBore, x_t_asked, x_t_day, x_t_reason))) else (if 0 ≤ v2 then (ogb (m_X8_faultOf f_pad x_t_signs) (fun q_14 => if q_14 < 0 then (ogb (m_X8_lastDay f_pad x_t_signs) (fun q_25 => if v2 ≤ q_25 then ((m_X8_could_46 f_may f_pad x_t_signs 1000000 v1 0 0 0 f_bears f_borneBy f_due f_gone f_sunk f_times f_whoBore v2 x_t_day x_t_reason)) else (some ((-1), (f_bears, f_borneBy, f_due, f_gone, f_sunk, f_times, f_whoBore, x_t_asked, x_t_day, x_t_reason))))) else (some ((-5), (f_bears, f_borneBy, f_due, f_gone, f_sunk, f_times, f_whoBore, x_t_asked, x_t_day, x_t_reason))))) else (some ((-1), (f_bears, f_borneBy, f_due, f_gone, f_sunk, f_times, f_whoBore, x_t_asked, x_t_day, x_t_reason))))) : Option (Int32 × ((Nat → Int32) × (Nat → Int32) × (Nat → Int32) × (Nat → Int32) × (Nat → Int32) × (Nat → Int32) × (Nat → Int32) × Int32 × Int32 × Int32))) = some res := h
  refine ct_entry (cc := cX8_could) (nl := 6) (ret := (some .int)) (own := RX8) (lv0 := [(0, .ref a_t), (1, .int v1), (2, .int v2)]) (by decide) rfl rfl (Nat.le_of_ble_eq_true rfl) rfl ?_
  intro p e s m args below meth c A Q hA hQ hr hnm B
  have iX8 : ∀ w ∈ wsX80, w ∈ wsX8_could := by decide +kernel
  have cut_46 : ∀ (fuel : Nat) (v1 : Int32) (v3 : Int32) (v4 : Int32) (v5 : Int32) (f_bears : (Nat → Int32)) (f_borneBy : (Nat → Int32)) (f_due : (Nat → Int32)) (f_gone : (Nat → Int32)) (f_sunk : (Nat → Int32)) (f_times : (Nat → Int32)) (f_whoBore : (Nat → Int32)) (x_t_asked : Int32) (x_t_day : Int32) (x_t_reason : Int32), m_X8_could_46 f_may f_pad x_t_signs fuel v1 v3 v4 v5 f_bears f_borneBy f_due f_gone f_sunk f_times f_whoBore x_t_asked x_t_day x_t_reason = some res → WW p l e (headSpec wsX8_could ({ frames := 3, cells := 0, slots := 0, locals := 70 } : Room)).room s m args below meth c D A 6 0 0 Q [(a_t, .inr (8, [.ref a_may, .ref b_voyage, .ref b_lucky, .ref b_worths, .ref b_ranks, .int x_t_signs, .ref a_pad, .int x_t_day, .int x_t_reason, .ref a_bears, .ref a_due, .ref a_borneBy, .ref a_gone, .ref a_sunk, .ref a_times, .int x_t_asked, .ref a_whoBore, .ref b_gives, .ref b_best, .ref b_holds, .ref b_refused, .ref b_sums, .ref b_image, .ref b_isKept])), (a_bears, .inl (cI, 6, .inl f_bears)), (a_borneBy, .inl (cI, 5, .inl f_borneBy)), (a_due, .inl (cI, 5, .inl f_due)), (a_gone, .inl (cZ, 5, .inl f_gone)), (a_may, .inl (cI, 6, .inl f_may)), (a_pad, .inl (cI, 48, .inl f_pad)), (a_sunk, .inl (cZ, 6, .inl f_sunk)), (a_times, .inl (cI, 5, .inl f_times)), (a_whoBore, .inl (cI, 5, .inl f_whoBore))] [(0, .ref a_t), (1, .int v1), (3, .int v3), (4, .int v4), (5, .int v5)] [] 46 := by
    intro fuel_46
    induction fuel_46 with
    | zero => intro v1 v3 v4 v5 f_bears f_borneBy f_due f_gone f_sunk f_times f_whoBore x_t_asked x_t_day x_t_reason h; exact og_0 h
    | succ fuel_46 ih_46 =>
      have cut_91 : ∀ (v1 : Int32) (v3 : Int32) (v4 : Int32) (v5 : Int32) (f_bears : (Nat → Int32)) (f_borneBy : (Nat → Int32)) (f_due : (Nat → Int32)) (f_gone : (Nat → Int32)) (f_sunk : (Nat → Int32)) (f_times : (Nat → Int32)) (f_whoBore : (Nat → Int32)) (x_t_asked : Int32) (x_t_day : Int32) (x_t_reason : Int32), m_X8_could_91 (m_X8_could_46 f_may f_pad x_t_signs fuel_46) f_may f_pad x_t_signs v1 v3 v4 v5 f_bears f_borneBy f_due f_gone f_sunk f_times f_whoBore x_t_asked x_t_day x_t_reason = some res → WW p l e (headSpec wsX8_could ({ frames := 3, cells := 0, slots := 0, locals := 70 } : Room)).room s m args below meth c D A 6 0 0 Q [(a_t, .inr (8, [.ref a_may, .ref b_voyage, .ref b_lucky, .ref b_worths, .ref b_ranks, .int x_t_signs, .ref a_pad, .int x_t_day, .int x_t_reason, .ref a_bears, .ref a_due, .ref a_borneBy, .ref a_gone, .ref a_sunk, .ref a_times, .int x_t_asked, .ref a_whoBore, .ref b_gives, .ref b_best, .ref b_holds, .ref b_refused, .ref b_sums, .ref b_image, .ref b_isKept])), (a_bears, .inl (cI, 6, .inl f_bears)), (a_borneBy, .inl (cI, 5, .inl f_borneBy)), (a_due, .inl (cI, 5, .inl f_due)), (a_gone, .inl (cZ, 5, .inl f_gone)), (a_may, .inl (cI, 6, .inl f_may)), (a_pad, .inl (cI, 48, .inl f_pad)), (a_sunk, .inl (cZ, 6, .inl f_sunk)), (a_times, .inl (cI, 5, .inl f_times)), (a_whoBore, .inl (cI, 5, .inl f_whoBore))] [(0, .ref a_t), (1, .int v1), (3, .int v3), (4, .int v4), (5, .int v5)] [] 91 := by
        intro v1 v3 v4 v5 f_bears f_borneBy f_due f_gone f_sunk f_times f_whoBore x_t_asked x_t_day x_t_reason h
        replace h : (ogl (v5 + 1) (fun (v5_91 : Int32) => ((m_X8_could_46 f_may f_pad x_t_signs fuel_46) v1 v3 v4 v5_91 f_bears f_borneBy f_due f_gone f_sunk f_times f_whoBore x_t_asked x_t_day x_t_reason)) : Option (Int32 × ((Nat → Int32) × (Nat → Int32) × (Nat → Int32) × (Nat → Int32) × (Nat → Int32) × (Nat → Int32) × (Nat → Int32) × Int32 × Int32 × Int32))) = some res := h
        obtain ⟨v5_91, ev5_91⟩ : ∃ y : Int32, y = (v5 + 1) := ⟨_, rfl⟩
        refine ww_iinc B dX8_could_91 4 rfl (v := v5_91) (by rw [ev5_91]; rfl) (by decide) (lv' := [(5, .int v5_91), (0, .ref a_t), (1, .int v1), (3, .int v3), (4, .int v4)]) rfl ?_
        replace h := og_l ev5_91 h
        refine ww_goto B 46 dX8_could_94 (by decide) ?_
        refine ww_lsel (lv' := [(0, .ref a_t), (1, .int v1), (3, .int v3), (4, .int v4), (5, .int v5_91)]) [1, 2, 3, 4, 0] rfl ?_
        exact ih_46 _ _ _ _ _ _ _ _ _ _ _ _ _ _ h
      have cut_89 : ∀ (v1 : Int32) (v4 : Int32) (v5 : Int32) (s0 : Int32) (s1 : Int32) (f_bears : (Nat → Int32)) (f_borneBy : (Nat → Int32)) (f_due : (Nat → Int32)) (f_gone : (Nat → Int32)) (f_sunk : (Nat → Int32)) (f_times : (Nat → Int32)) (f_whoBore : (Nat → Int32)) (x_t_asked : Int32) (x_t_day : Int32) (x_t_reason : Int32), m_X8_could_89 (m_X8_could_46 f_may f_pad x_t_signs fuel_46) f_may f_pad x_t_signs v1 v4 v5 s0 s1 f_bears f_borneBy f_due f_gone f_sunk f_times f_whoBore x_t_asked x_t_day x_t_reason = some res → WW p l e (headSpec wsX8_could ({ frames := 3, cells := 0, slots := 0, locals := 70 } : Room)).room s m args below meth c D A 6 0 0 Q [(a_t, .inr (8, [.ref a_may, .ref b_voyage, .ref b_lucky, .ref b_worths, .ref b_ranks, .int x_t_signs, .ref a_pad, .int x_t_day, .int x_t_reason, .ref a_bears, .ref a_due, .ref a_borneBy, .ref a_gone, .ref a_sunk, .ref a_times, .int x_t_asked, .ref a_whoBore, .ref b_gives, .ref b_best, .ref b_holds, .ref b_refused, .ref b_sums, .ref b_image, .ref b_isKept])), (a_bears, .inl (cI, 6, .inl f_bears)), (a_borneBy, .inl (cI, 5, .inl f_borneBy)), (a_due, .inl (cI, 5, .inl f_due)), (a_gone, .inl (cZ, 5, .inl f_gone)), (a_may, .inl (cI, 6, .inl f_may)), (a_pad, .inl (cI, 48, .inl f_pad)), (a_sunk, .inl (cZ, 6, .inl f_sunk)), (a_times, .inl (cI, 5, .inl f_times)), (a_whoBore, .inl (cI, 5, .inl f_whoBore))] [(0, .ref a_t), (1, .int v1), (4, .int v4), (5, .int v5)] [.int s1, .int s0] 89 := by
        intro v1 v4 v5 s0 s1 f_bears f_borneBy f_due f_gone f_sunk f_times f_whoBore x_t_asked x_t_day x_t_reason h
        replace h : (ogl (s0 ||| s1) (fun (v3_90 : Int32) => (m_X8_could_91 (m_X8_could_46 f_may f_pad x_t_signs fuel_46) f_may f_pad x_t_signs v1 v3_90 v4 v5 f_bears f_borneBy f_due f_gone f_sunk f_times f_whoBore x_t_asked x_t_day x_t_reason)) : Option (Int32 × ((Nat → Int32) × (Nat → Int32) × (Nat → Int32) × (Nat → Int32) × (Nat → Int32) × (Nat → Int32) × (Nat → Int32) × Int32 × Int32 × Int32))) = some res := h
        refine ww_ior B dX8_could_89 ?_
        refine ww_topi (fun v3_90 ev3_90 => ?_)
        replace h := og_l ev3_90 h
        refine ww_istore_n B dX8_could_90 (lv' := [(3, .int v3_90), (0, .ref a_t), (1, .int v1), (4, .int v4), (5, .int v5)]) (by decide) rfl ?_
        refine ww_lsel (lv' := [(0, .ref a_t), (1, .int v1), (3, .int v3_90), (4, .int v4), (5, .int v5)]) [1, 2, 0, 3, 4] rfl ?_
        exact cut_91 _ _ _ _ _ _ _ _ _ _ _ _ _ _ h
      intro v1 v3 v4 v5 f_bears f_borneBy f_due f_gone f_sunk f_times f_whoBore x_t_asked x_t_day x_t_reason h
      replace h : (ogb (m_X8_codes f_pad x_t_signs) (fun q_49 => if q_49 ≤ v5 then (if v4 = 0 then (some ((-3), (f_bears, f_borneBy, f_due, f_gone, f_sunk, f_times, f_whoBore, x_t_asked, x_t_day, x_t_reason))) else (some (v3, (f_bears, f_borneBy, f_due, f_gone, f_sunk, f_times, f_whoBore, x_t_asked, x_t_day, x_t_reason)))) else (ogb (m_X8_goLog f_may f_pad x_t_signs x_t_asked f_bears f_borneBy f_due f_gone f_sunk f_times f_whoBore x_t_day x_t_reason v5) (fun q_58 => if 0 ≤ q_58.1 then ((m_X8_could_91 (m_X8_could_46 f_may f_pad x_t_signs fuel_46) f_may f_pad x_t_signs v1 v3 v4 v5 q_58.2.1 q_58.2.2.1 q_58.2.2.2.1 q_58.2.2.2.2.1 q_58.2.2.2.2.2.1 q_58.2.2.2.2.2.2.1 q_58.2.2.2.2.2.2.2.1 x_t_asked q_58.2.2.2.2.2.2.2.2.1 q_58.2.2.2.2.2.2.2.2.2)) else (ogi v1 5 (if (q_58.2.2.2.2.2.2.2.1 (Int32.toNatClampNeg v1)) < 0 then ((m_X8_could_89 (m_X8_could_46 f_may f_pad x_t_signs fuel_46) f_may f_pad x_t_signs v1 1 v5 v3 0 q_58.2.1 q_58.2.2.1 q_58.2.2.2.1 q_58.2.2.2.2.1 q_58.2.2.2.2.2.1 q_58.2.2.2.2.2.2.1 q_58.2.2.2.2.2.2.2.1 x_t_asked q_58.2.2.2.2.2.2.2.2.1 q_58.2.2.2.2.2.2.2.2.2)) else (ogi v1 5 ((m_X8_could_89 (m_X8_could_46 f_may f_pad x_t_signs fuel_46) f_may f_pad x_t_signs v1 1 v5 v3 ((1 : Int32) <<< (((q_58.2.2.2.2.2.2.2.1 (Int32.toNatClampNeg v1)) : Int32) &&& 31)) q_58.2.1 q_58.2.2.1 q_58.2.2.2.1 q_58.2.2.2.2.1 q_58.2.2.2.2.2.1 q_58.2.2.2.2.2.2.1 q_58.2.2.2.2.2.2.2.1 x_t_asked q_58.2.2.2.2.2.2.2.2.1 q_58.2.2.2.2.2.2.2.2.2)))))))) : Option (Int32 × ((Nat → Int32) × (Nat → Int32) × (Nat → Int32) × (Nat → Int32) × (Nat → Int32) × (Nat → Int32) × (Nat → Int32) × Int32 × Int32 × Int32))) = some res := h
      refine ww_iload B dX8_could_46 4 rfl ?_
      refine ww_aload_n B dX8_could_48 0 rfl ?_
      obtain ⟨q_49, hq_49, h⟩ := og_b h
      refine ww_ci0 B (k' := 0) (n' := 0) rfl rfl [0, 6] [1, 2, 3, 4, 5, 7, 8, 9] (wr := [(a_bears, .inl (cI, 6, .inl f_bears)), (a_borneBy, .inl (cI, 5, .inl f_borneBy)), (a_due, .inl (cI, 5, .inl f_due)), (a_gone, .inl (cZ, 5, .inl f_gone)), (a_may, .inl (cI, 6, .inl f_may)), (a_sunk, .inl (cZ, 6, .inl f_sunk)), (a_times, .inl (cI, 5, .inl f_times)), (a_whoBore, .inl (cI, 5, .inl f_whoBore))]) (st := [.int v5]) rfl rfl (by decide) (rr_V B (c_X8_codes l D cI cZ a_t a_pad a_may b_voyage b_lucky b_worths b_ranks a_bears a_due a_borneBy a_gone a_sunk a_times a_whoBore b_gives b_best b_holds b_refused b_sums b_image b_isKept f_pad x_t_signs x_t_day x_t_reason x_t_asked hq_49) gX8_could_X8_codes rfl rfl rfl (N := 0) rfl (by decide +kernel) ⟨Nat.le_of_ble_eq_true rfl, Nat.le_of_ble_eq_true rfl⟩ rfl dX8_could_49 0 rfl rfl (Nat.le_of_ble_eq_true rfl) ⟨Nat.le_of_ble_eq_true rfl, Nat.le_of_ble_eq_true rfl⟩) (ws' := [(a_bears, .inl (cI, 6, .inl f_bears)), (a_borneBy, .inl (cI, 5, .inl f_borneBy)), (a_due, .inl (cI, 5, .inl f_due)), (a_gone, .inl (cZ, 5, .inl f_gone)), (a_may, .inl (cI, 6, .inl f_may)), (a_sunk, .inl (cZ, 6, .inl f_sunk)), (a_times, .inl (cI, 5, .inl f_times)), (a_whoBore, .inl (cI, 5, .inl f_whoBore)), (a_t, .inr (8, [.ref a_may, .ref b_voyage, .ref b_lucky, .ref b_worths, .ref b_ranks, .int x_t_signs, .ref a_pad, .int x_t_day, .int x_t_reason, .ref a_bears, .ref a_due, .ref a_borneBy, .ref a_gone, .ref a_sunk, .ref a_times, .int x_t_asked, .ref a_whoBore, .ref b_gives, .ref b_best, .ref b_holds, .ref b_refused, .ref b_sums, .ref b_image, .ref b_isKept])), (a_pad, .inl (cI, 48, .inl f_pad))]) rfl ?_
      refine ww_icmp_ge B 97 dX8_could_52 (by decide) (fun c_52 => ?_) (fun c_52 => ?_)
      · replace h := og_t c_52 h
        refine ww_iload B dX8_could_97 3 rfl ?_
        refine ww_if_eq B 106 dX8_could_99 (by decide) (fun c_99 => ?_) (fun c_99 => ?_)
        · replace h := og_t c_99 h
          refine ww_bipush B dX8_could_106 (v := (-3)) (by decide) ?_
          exact ww_iret B hA hQ hr dX8_could_108 (f_bears, f_borneBy, f_due, f_gone, f_sunk, f_times, f_whoBore, x_t_asked, x_t_day, x_t_reason) [8, 0, 1, 2, 3, 4, 9, 5, 6, 7] rfl (by decide) (og_p h)
        · replace h := og_f c_99 h
          refine ww_iload_n B dX8_could_102 2 rfl ?_
          refine ww_goto B 108 dX8_could_103 (by decide) ?_
          exact ww_iret B hA hQ hr dX8_could_108 (f_bears, f_borneBy, f_due, f_gone, f_sunk, f_times, f_whoBore, x_t_asked, x_t_day, x_t_reason) [8, 0, 1, 2, 3, 4, 9, 5, 6, 7] rfl (by decide) (og_p h)
      · replace h := og_f c_52 h
        refine ww_aload_n B dX8_could_55 0 rfl ?_
        refine ww_iload B dX8_could_56 4 rfl ?_
        obtain ⟨q_58, hq_58, h⟩ := og_b h
        refine ww_ciM B (k' := 0) (n' := 0) rfl rfl [8, 0, 1, 2, 3, 4, 9, 5, 6, 7] [] (wr := []) (st := []) rfl rfl (by decide) (rr_V B (c_X8_goLog l D cI cZ a_t a_bears a_borneBy a_due a_gone a_may a_pad a_sunk a_times a_whoBore b_voyage b_lucky b_worths b_ranks b_gives b_best b_holds b_refused b_sums b_image b_isKept f_bears f_borneBy f_due f_gone f_may f_pad f_sunk f_times f_whoBore x_t_signs x_t_day x_t_reason x_t_asked v5 hq_58) gX8_could_X8_goLog rfl rfl rfl (N := 1) rfl (by decide +kernel) ⟨Nat.le_of_ble_eq_true rfl, Nat.le_of_ble_eq_true rfl⟩ rfl dX8_could_58 0 rfl rfl (Nat.le_of_ble_eq_true rfl) ⟨Nat.le_of_ble_eq_true rfl, Nat.le_of_ble_eq_true rfl⟩) (ws' := [(a_t, .inr (8, [.ref a_may, .ref b_voyage, .ref b_lucky, .ref b_worths, .ref b_ranks, .int x_t_signs, .ref a_pad, .int q_58.2.2.2.2.2.2.2.2.1, .int q_58.2.2.2.2.2.2.2.2.2, .ref a_bears, .ref a_due, .ref a_borneBy, .ref a_gone, .ref a_sunk, .ref a_times, .int x_t_asked, .ref a_whoBore, .ref b_gives, .ref b_best, .ref b_holds, .ref b_refused, .ref b_sums, .ref b_image, .ref b_isKept])), (a_bears, .inl (cI, 6, .inl q_58.2.1)), (a_borneBy, .inl (cI, 5, .inl q_58.2.2.1)), (a_due, .inl (cI, 5, .inl q_58.2.2.2.1)), (a_gone, .inl (cZ, 5, .inl q_58.2.2.2.2.1)), (a_may, .inl (cI, 6, .inl f_may)), (a_pad, .inl (cI, 48, .inl f_pad)), (a_sunk, .inl (cZ, 6, .inl q_58.2.2.2.2.2.1)), (a_times, .inl (cI, 5, .inl q_58.2.2.2.2.2.2.1)), (a_whoBore, .inl (cI, 5, .inl q_58.2.2.2.2.2.2.2.1))]) rfl ?_
        refine ww_if_ge B 91 dX8_could_61 (by decide) (fun c_61 => ?_) (fun c_61 => ?_)
        · replace h := og_t c_61 h
          exact cut_91 _ _ _ _ _ _ _ _ _ _ _ _ _ _ h
        · replace h := og_f c_61 h
          refine ww_iconst B dX8_could_64 (v := 1) (by decide) ?_
          refine ww_istore B dX8_could_65 (lv' := [(4, .int 1), (0, .ref a_t), (1, .int v1), (3, .int v3), (5, .int v5)]) (by decide) rfl ?_
          refine ww_iload_n B dX8_could_67 3 rfl ?_
          refine ww_aload_n B dX8_could_68 1 rfl ?_
          refine ww_get (ci := 8) (T := TX8) (C := RX8) (N := 24) B iX8 0 rfl rfl 16 (by decide) (by decide +kernel) rfl rfl dX8_could_69 ?_
          refine ww_iload_n B dX8_could_72 2 rfl ?_
          obtain ⟨i_73, h⟩ := og_i h
          refine ww_iald B 9 rfl i_73 dX8_could_73 ?_
          refine ww_if_lt B 88 dX8_could_74 (by decide) (fun c_74 => ?_) (fun c_74 => ?_)
          · replace h := og_t c_74 h
            refine ww_iconst B dX8_could_88 (v := 0) (by decide) ?_
            refine ww_lsel (lv' := [(0, .ref a_t), (1, .int v1), (4, .int 1), (5, .int v5)]) [1, 2, 0, 4] rfl ?_
            exact cut_89 _ _ _ _ _ _ _ _ _ _ _ _ _ _ _ h
          · replace h := og_f c_74 h
            refine ww_iconst B dX8_could_77 (v := 1) (by decide) ?_
            refine ww_aload_n B dX8_could_78 1 rfl ?_
            refine ww_get (ci := 8) (T := TX8) (C := RX8) (N := 24) B iX8 0 rfl rfl 16 (by decide) (by decide +kernel) rfl rfl dX8_could_79 ?_
            refine ww_iload_n B dX8_could_82 2 rfl ?_
            obtain ⟨i_83, h⟩ := og_i h
            refine ww_iald B 9 rfl i_83 dX8_could_83 ?_
            refine ww_ishl B dX8_could_84 ?_
            refine ww_goto B 89 dX8_could_85 (by decide) ?_
            refine ww_lsel (lv' := [(0, .ref a_t), (1, .int v1), (4, .int 1), (5, .int v5)]) [1, 2, 0, 4] rfl ?_
            exact cut_89 _ _ _ _ _ _ _ _ _ _ _ _ _ _ _ h
  refine ww_iload_n B dX8_could_0 1 rfl ?_
  obtain ⟨q_1, hq_1, h⟩ := og_b h
  refine ww_ci0 B (k' := 0) (n' := 0) rfl rfl [] [0, 1, 2, 3, 4, 5, 6, 7, 8, 9] (wr := [(a_t, .inr (8, [.ref a_may, .ref b_voyage, .ref b_lucky, .ref b_worths, .ref b_ranks, .int x_t_signs, .ref a_pad, .int x_t_day, .int x_t_reason, .ref a_bears, .ref a_due, .ref a_borneBy, .ref a_gone, .ref a_sunk, .ref a_times, .int x_t_asked, .ref a_whoBore, .ref b_gives, .ref b_best, .ref b_holds, .ref b_refused, .ref b_sums, .ref b_image, .ref b_isKept])), (a_bears, .inl (cI, 6, .inl f_bears)), (a_borneBy, .inl (cI, 5, .inl f_borneBy)), (a_due, .inl (cI, 5, .inl f_due)), (a_gone, .inl (cZ, 5, .inl f_gone)), (a_may, .inl (cI, 6, .inl f_may)), (a_pad, .inl (cI, 48, .inl f_pad)), (a_sunk, .inl (cZ, 6, .inl f_sunk)), (a_times, .inl (cI, 5, .inl f_times)), (a_whoBore, .inl (cI, 5, .inl f_whoBore))]) (st := []) rfl rfl (by decide) (rr_S B (c_X8_isName l D cI cZ v1 hq_1) gX8_could_X8_isName rfl rfl rfl (N := 1) rfl (by decide +kernel) ⟨Nat.le_of_ble_eq_true rfl, Nat.le_of_ble_eq_true rfl⟩ rfl dX8_could_1 (Nat.le_of_ble_eq_true rfl) ⟨Nat.le_of_ble_eq_true rfl, Nat.le_of_ble_eq_true rfl⟩) (ws' := [(a_t, .inr (8, [.ref a_may, .ref b_voyage, .ref b_lucky, .ref b_worths, .ref b_ranks, .int x_t_signs, .ref a_pad, .int x_t_day, .int x_t_reason, .ref a_bears, .ref a_due, .ref a_borneBy, .ref a_gone, .ref a_sunk, .ref a_times, .int x_t_asked, .ref a_whoBore, .ref b_gives, .ref b_best, .ref b_holds, .ref b_refused, .ref b_sums, .ref b_image, .ref b_isKept])), (a_bears, .inl (cI, 6, .inl f_bears)), (a_borneBy, .inl (cI, 5, .inl f_borneBy)), (a_due, .inl (cI, 5, .inl f_due)), (a_gone, .inl (cZ, 5, .inl f_gone)), (a_may, .inl (cI, 6, .inl f_may)), (a_pad, .inl (cI, 48, .inl f_pad)), (a_sunk, .inl (cZ, 6, .inl f_sunk)), (a_times, .inl (cI, 5, .inl f_times)), (a_whoBore, .inl (cI, 5, .inl f_whoBore))]) rfl ?_
  refine ww_if_eq B 11 dX8_could_4 (by decide) (fun c_4 => ?_) (fun c_4 => ?_)
  · replace h := og_t c_4 h
    refine ww_iconst B dX8_could_11 (v := (-1)) (by decide) ?_
    exact ww_iret B hA hQ hr dX8_could_12 (f_bears, f_borneBy, f_due, f_gone, f_sunk, f_times, f_whoBore, x_t_asked, x_t_day, x_t_reason) [0, 1, 2, 3, 4, 5, 6, 7, 8, 9] rfl (by decide) (og_p h)
  · replace h := og_f c_4 h
    refine ww_iload_n B dX8_could_7 2 rfl ?_
    refine ww_if_ge B 13 dX8_could_8 (by decide) (fun c_8 => ?_) (fun c_8 => ?_)
    · replace h := og_t c_8 h
      refine ww_aload_n B dX8_could_13 0 rfl ?_
      obtain ⟨q_14, hq_14, h⟩ := og_b h
      refine ww_ci0 B (k' := 0) (n' := 0) rfl rfl [0, 6] [1, 2, 3, 4, 5, 7, 8, 9] (wr := [(a_bears, .inl (cI, 6, .inl f_bears)), (a_borneBy, .inl (cI, 5, .inl f_borneBy)), (a_due, .inl (cI, 5, .inl f_due)), (a_gone, .inl (cZ, 5, .inl f_gone)), (a_may, .inl (cI, 6, .inl f_may)), (a_sunk, .inl (cZ, 6, .inl f_sunk)), (a_times, .inl (cI, 5, .inl f_times)), (a_whoBore, .inl (cI, 5, .inl f_whoBore))]) (st := []) rfl rfl (by decide) (rr_V B (c_X8_faultOf l D cI cZ a_t a_pad a_may b_voyage b_lucky b_worths b_ranks a_bears a_due a_borneBy a_gone a_sunk a_times a_whoBore b_gives b_best b_holds b_refused b_sums b_image b_isKept f_pad x_t_signs x_t_day x_t_reason x_t_asked hq_14) gX8_could_X8_faultOf rfl rfl rfl (N := 0) rfl (by decide +kernel) ⟨Nat.le_of_ble_eq_true rfl, Nat.le_of_ble_eq_true rfl⟩ rfl dX8_could_14 0 rfl rfl (Nat.le_of_ble_eq_true rfl) ⟨Nat.le_of_ble_eq_true rfl, Nat.le_of_ble_eq_true rfl⟩) (ws' := [(a_bears, .inl (cI, 6, .inl f_bears)), (a_borneBy, .inl (cI, 5, .inl f_borneBy)), (a_due, .inl (cI, 5, .inl f_due)), (a_gone, .inl (cZ, 5, .inl f_gone)), (a_may, .inl (cI, 6, .inl f_may)), (a_sunk, .inl (cZ, 6, .inl f_sunk)), (a_times, .inl (cI, 5, .inl f_times)), (a_whoBore, .inl (cI, 5, .inl f_whoBore)), (a_t, .inr (8, [.ref a_may, .ref b_voyage, .ref b_lucky, .ref b_worths, .ref b_ranks, .int x_t_signs, .ref a_pad, .int x_t_day, .int x_t_reason, .ref a_bears, .ref a_due, .ref a_borneBy, .ref a_gone, .ref a_sunk, .ref a_times, .int x_t_asked, .ref a_whoBore, .ref b_gives, .ref b_best, .ref b_holds, .ref b_refused, .ref b_sums, .ref b_image, .ref b_isKept])), (a_pad, .inl (cI, 48, .inl f_pad))]) rfl ?_
      refine ww_if_lt B 23 dX8_could_17 (by decide) (fun c_17 => ?_) (fun c_17 => ?_)
      · replace h := og_t c_17 h
        refine ww_iload_n B dX8_could_23 2 rfl ?_
        refine ww_aload_n B dX8_could_24 0 rfl ?_
        obtain ⟨q_25, hq_25, h⟩ := og_b h
        refine ww_ci0 B (k' := 0) (n' := 0) rfl rfl [8, 9] [0, 1, 2, 3, 4, 5, 6, 7] (wr := [(a_bears, .inl (cI, 6, .inl f_bears)), (a_borneBy, .inl (cI, 5, .inl f_borneBy)), (a_due, .inl (cI, 5, .inl f_due)), (a_gone, .inl (cZ, 5, .inl f_gone)), (a_may, .inl (cI, 6, .inl f_may)), (a_sunk, .inl (cZ, 6, .inl f_sunk)), (a_times, .inl (cI, 5, .inl f_times)), (a_whoBore, .inl (cI, 5, .inl f_whoBore))]) (st := [.int v2]) rfl rfl (by decide) (rr_V B (c_X8_lastDay l D cI cZ a_t a_pad a_may b_voyage b_lucky b_worths b_ranks a_bears a_due a_borneBy a_gone a_sunk a_times a_whoBore b_gives b_best b_holds b_refused b_sums b_image b_isKept f_pad x_t_signs x_t_day x_t_reason x_t_asked hq_25) gX8_could_X8_lastDay rfl rfl rfl (N := 0) rfl (by decide +kernel) ⟨Nat.le_of_ble_eq_true rfl, Nat.le_of_ble_eq_true rfl⟩ rfl dX8_could_25 0 rfl rfl (Nat.le_of_ble_eq_true rfl) ⟨Nat.le_of_ble_eq_true rfl, Nat.le_of_ble_eq_true rfl⟩) (ws' := [(a_bears, .inl (cI, 6, .inl f_bears)), (a_borneBy, .inl (cI, 5, .inl f_borneBy)), (a_due, .inl (cI, 5, .inl f_due)), (a_gone, .inl (cZ, 5, .inl f_gone)), (a_may, .inl (cI, 6, .inl f_may)), (a_sunk, .inl (cZ, 6, .inl f_sunk)), (a_times, .inl (cI, 5, .inl f_times)), (a_whoBore, .inl (cI, 5, .inl f_whoBore)), (a_t, .inr (8, [.ref a_may, .ref b_voyage, .ref b_lucky, .ref b_worths, .ref b_ranks, .int x_t_signs, .ref a_pad, .int x_t_day, .int x_t_reason, .ref a_bears, .ref a_due, .ref a_borneBy, .ref a_gone, .ref a_sunk, .ref a_times, .int x_t_asked, .ref a_whoBore, .ref b_gives, .ref b_best, .ref b_holds, .ref b_refused, .ref b_sums, .ref b_image, .ref b_isKept])), (a_pad, .inl (cI, 48, .inl f_pad))]) rfl ?_
        refine ww_icmp_le B 33 dX8_could_28 (by decide) (fun c_28 => ?_) (fun c_28 => ?_)
        · replace h := og_t c_28 h
          refine ww_aload_n B dX8_could_33 0 rfl ?_
          refine ww_iload_n B dX8_could_34 2 rfl ?_
          refine ww_put (ci := 8) (T := TX8) (C := RX8) (N := 24) (ty := .int) B iX8 tyX8 tyX8_ok nmX8 8 rfl rfl 15 (by decide) (by decide +kernel) rfl rfl (by decide +kernel) rfl rfl (Nat.le_of_ble_eq_true rfl) dX8_could_35 (ws' := [(a_bears, .inl (cI, 6, .inl f_bears)), (a_borneBy, .inl (cI, 5, .inl f_borneBy)), (a_due, .inl (cI, 5, .inl f_due)), (a_gone, .inl (cZ, 5, .inl f_gone)), (a_may, .inl (cI, 6, .inl f_may)), (a_sunk, .inl (cZ, 6, .inl f_sunk)), (a_times, .inl (cI, 5, .inl f_times)), (a_whoBore, .inl (cI, 5, .inl f_whoBore)), (a_t, .inr (8, [.ref a_may, .ref b_voyage, .ref b_lucky, .ref b_worths, .ref b_ranks, .int x_t_signs, .ref a_pad, .int x_t_day, .int x_t_reason, .ref a_bears, .ref a_due, .ref a_borneBy, .ref a_gone, .ref a_sunk, .ref a_times, .int v2, .ref a_whoBore, .ref b_gives, .ref b_best, .ref b_holds, .ref b_refused, .ref b_sums, .ref b_image, .ref b_isKept])), (a_pad, .inl (cI, 48, .inl f_pad))]) rfl ?_
          refine ww_iconst B dX8_could_38 (v := 0) (by decide) ?_
          refine ww_istore_n B dX8_could_39 (lv' := [(3, .int 0), (0, .ref a_t), (1, .int v1), (2, .int v2)]) (by decide) rfl ?_
          refine ww_iconst B dX8_could_40 (v := 0) (by decide) ?_
          refine ww_istore B dX8_could_41 (lv' := [(4, .int 0), (3, .int 0), (0, .ref a_t), (1, .int v1), (2, .int v2)]) (by decide) rfl ?_
          refine ww_iconst B dX8_could_43 (v := 0) (by decide) ?_
          refine ww_istore B dX8_could_44 (lv' := [(5, .int 0), (4, .int 0), (3, .int 0), (0, .ref a_t), (1, .int v1), (2, .int v2)]) (by decide) rfl ?_
          refine ww_sub (ws' := [(a_t, .inr (8, [.ref a_may, .ref b_voyage, .ref b_lucky, .ref b_worths, .ref b_ranks, .int x_t_signs, .ref a_pad, .int x_t_day, .int x_t_reason, .ref a_bears, .ref a_due, .ref a_borneBy, .ref a_gone, .ref a_sunk, .ref a_times, .int v2, .ref a_whoBore, .ref b_gives, .ref b_best, .ref b_holds, .ref b_refused, .ref b_sums, .ref b_image, .ref b_isKept])), (a_bears, .inl (cI, 6, .inl f_bears)), (a_borneBy, .inl (cI, 5, .inl f_borneBy)), (a_due, .inl (cI, 5, .inl f_due)), (a_gone, .inl (cZ, 5, .inl f_gone)), (a_may, .inl (cI, 6, .inl f_may)), (a_pad, .inl (cI, 48, .inl f_pad)), (a_sunk, .inl (cZ, 6, .inl f_sunk)), (a_times, .inl (cI, 5, .inl f_times)), (a_whoBore, .inl (cI, 5, .inl f_whoBore))]) [8, 0, 1, 2, 3, 4, 9, 5, 6, 7] rfl (by decide) ?_
          refine ww_lsel (lv' := [(0, .ref a_t), (1, .int v1), (3, .int 0), (4, .int 0), (5, .int 0)]) [3, 4, 2, 1, 0] rfl ?_
          exact cut_46 _ _ _ _ _ _ _ _ _ _ _ _ _ _ _ h
        · replace h := og_f c_28 h
          refine ww_iconst B dX8_could_31 (v := (-1)) (by decide) ?_
          exact ww_iret B hA hQ hr dX8_could_32 (f_bears, f_borneBy, f_due, f_gone, f_sunk, f_times, f_whoBore, x_t_asked, x_t_day, x_t_reason) [8, 0, 1, 2, 3, 4, 9, 5, 6, 7] rfl (by decide) (og_p h)
      · replace h := og_f c_17 h
        refine ww_bipush B dX8_could_20 (v := (-5)) (by decide) ?_
        exact ww_iret B hA hQ hr dX8_could_22 (f_bears, f_borneBy, f_due, f_gone, f_sunk, f_times, f_whoBore, x_t_asked, x_t_day, x_t_reason) [8, 0, 1, 2, 3, 4, 9, 5, 6, 7] rfl (by decide) (og_p h)
    · replace h := og_f c_8 h
      refine ww_iconst B dX8_could_11 (v := (-1)) (by decide) ?_
      exact ww_iret B hA hQ hr dX8_could_12 (f_bears, f_borneBy, f_due, f_gone, f_sunk, f_times, f_whoBore, x_t_asked, x_t_day, x_t_reason) [0, 1, 2, 3, 4, 5, 6, 7, 8, 9] rfl (by decide) (og_p h)
noncomputable def m_X8_keepBest_2b (k2 : Int32 → (Nat → Int32) → Option ((Nat → Int32))) (f_gives : (Nat → Int32)) (v1 : Int32) (f_best : (Nat → Int32)) : Option ((Nat → Int32)) := if 6 ≤ v1 then (some f_best) else (ogi v1 6 (ogi v1 6 (ogl (v1 + 1) (fun (v1_20 : Int32) => (k2 v1_20 (upd f_best (Int32.toNatClampNeg v1) (f_gives (Int32.toNatClampNeg v1))))))))
noncomputable def m_X8_keepBest_2 (f_gives : (Nat → Int32)) (fuel : Nat) : Int32 → (Nat → Int32) → Option ((Nat → Int32)) := Nat.rec (fun _ _ => none) (fun _ k2 => m_X8_keepBest_2b k2 f_gives) fuel
noncomputable def m_X8_keepBest (f_gives : (Nat → Int32)) (f_best : (Nat → Int32)) : Option ((Nat → Int32)) := (m_X8_keepBest_2 f_gives 1000000 0 f_best)
set_option maxHeartbeats 4000000 in
set_option maxRecDepth 100000 in
theorem c_X8_keepBest (l : Launch) (D : va_G) (cI cZ : ClassId) (a_t a_best a_gives b_may b_voyage b_lucky b_worths b_ranks b_pad b_bears b_due b_borneBy b_gone b_sunk b_times b_whoBore b_holds b_refused b_sums b_image b_isKept : Nat) (f_best : (Nat → Int32)) (f_gives : (Nat → Int32)) (x_t_signs : Int32) (x_t_day : Int32) (x_t_reason : Int32) (x_t_asked : Int32) {res : ((Nat → Int32))} (h : m_X8_keepBest f_gives f_best = some res) : CT l yX8_keepBest wsX8_keepBest ({ frames := 0, cells := 0, slots := 0, locals := 0 } : Room) D cI cZ [.ref a_t] [(a_t, .inr (8, [.ref b_may, .ref b_voyage, .ref b_lucky, .ref b_worths, .ref b_ranks, .int x_t_signs, .ref b_pad, .int x_t_day, .int x_t_reason, .ref b_bears, .ref b_due, .ref b_borneBy, .ref b_gone, .ref b_sunk, .ref b_times, .int x_t_asked, .ref b_whoBore, .ref a_gives, .ref a_best, .ref b_holds, .ref b_refused, .ref b_sums, .ref b_image, .ref b_isKept])), (a_best, .inl (cI, 6, .inl f_best)), (a_gives, .inl (cI, 6, .inl f_gives))] (QV D [(a_t, .inr (8, [.ref b_may, .ref b_voyage, .ref b_lucky, .ref b_worths, .ref b_ranks, .int x_t_signs, .ref b_pad, .int x_t_day, .int x_t_reason, .ref b_bears, .ref b_due, .ref b_borneBy, .ref b_gone, .ref b_sunk, .ref b_times, .int x_t_asked, .ref b_whoBore, .ref a_gives, .ref a_best, .ref b_holds, .ref b_refused, .ref b_sums, .ref b_image, .ref b_isKept])), (a_best, .inl (cI, 6, .inl f_best)), (a_gives, .inl (cI, 6, .inl f_gives))] (fun (u : (Nat → Int32)) => u = res) (fun (u : (Nat → Int32)) => [(a_t, .inr (8, [.ref b_may, .ref b_voyage, .ref b_lucky, .ref b_worths, .ref b_ranks, .int x_t_signs, .ref b_pad, .int x_t_day, .int x_t_reason, .ref b_bears, .ref b_due, .ref b_borneBy, .ref b_gone, .ref b_sunk, .ref b_times, .int x_t_asked, .ref b_whoBore, .ref a_gives, .ref a_best, .ref b_holds, .ref b_refused, .ref b_sums, .ref b_image, .ref b_isKept])), (a_best, .inl (cI, 6, .inl u)), (a_gives, .inl (cI, 6, .inl f_gives))])) 0 0 := by
  have h : ((m_X8_keepBest_2 f_gives 1000000 0 f_best) : Option ((Nat → Int32))) = some res := h
  refine ct_entry (cc := cX8_keepBest) (nl := 2) (ret := none) (own := RX8) (lv0 := [(0, .ref a_t)]) (by decide) rfl rfl (Nat.le_of_ble_eq_true rfl) rfl ?_
  intro p e s m args below meth c A Q hA hQ hr hnm B
  have iX8 : ∀ w ∈ wsX80, w ∈ wsX8_keepBest := by decide +kernel
  have cut_2 : ∀ (fuel : Nat) (v1 : Int32) (f_best : (Nat → Int32)), m_X8_keepBest_2 f_gives fuel v1 f_best = some res → WW p l e (headSpec wsX8_keepBest ({ frames := 0, cells := 0, slots := 0, locals := 0 } : Room)).room s m args below meth c D A 2 0 0 Q [(a_t, .inr (8, [.ref b_may, .ref b_voyage, .ref b_lucky, .ref b_worths, .ref b_ranks, .int x_t_signs, .ref b_pad, .int x_t_day, .int x_t_reason, .ref b_bears, .ref b_due, .ref b_borneBy, .ref b_gone, .ref b_sunk, .ref b_times, .int x_t_asked, .ref b_whoBore, .ref a_gives, .ref a_best, .ref b_holds, .ref b_refused, .ref b_sums, .ref b_image, .ref b_isKept])), (a_best, .inl (cI, 6, .inl f_best)), (a_gives, .inl (cI, 6, .inl f_gives))] [(0, .ref a_t), (1, .int v1)] [] 2 := by
    intro fuel_2
    induction fuel_2 with
    | zero => intro v1 f_best h; exact og_0 h
    | succ fuel_2 ih_2 =>
      intro v1 f_best h
      replace h : (if 6 ≤ v1 then (some f_best) else (ogi v1 6 (ogi v1 6 (ogl (v1 + 1) (fun (v1_20 : Int32) => ((m_X8_keepBest_2 f_gives fuel_2) v1_20 (upd f_best (Int32.toNatClampNeg v1) (f_gives (Int32.toNatClampNeg v1)))))))) : Option ((Nat → Int32))) = some res := h
      refine ww_iload_n B dX8_keepBest_2 1 rfl ?_
      refine ww_bipush B dX8_keepBest_3 (v := 6) (by decide) ?_
      refine ww_icmp_ge B 26 dX8_keepBest_5 (by decide) (fun c_5 => ?_) (fun c_5 => ?_)
      · replace h := og_t c_5 h
        exact ww_vret B hA hQ hr dX8_keepBest_26 f_best [0, 1, 2] rfl (by decide) (og_s h).symm
      · replace h := og_f c_5 h
        refine ww_aload_n B dX8_keepBest_8 0 rfl ?_
        refine ww_get (ci := 8) (T := TX8) (C := RX8) (N := 24) B iX8 0 rfl rfl 18 (by decide) (by decide +kernel) rfl rfl dX8_keepBest_9 ?_
        refine ww_iload_n B dX8_keepBest_12 1 rfl ?_
        refine ww_aload_n B dX8_keepBest_13 0 rfl ?_
        refine ww_get (ci := 8) (T := TX8) (C := RX8) (N := 24) B iX8 0 rfl rfl 17 (by decide) (by decide +kernel) rfl rfl dX8_keepBest_14 ?_
        refine ww_iload_n B dX8_keepBest_17 1 rfl ?_
        obtain ⟨i_18, h⟩ := og_i h
        refine ww_iald B 2 rfl i_18 dX8_keepBest_18 ?_
        obtain ⟨i_19, h⟩ := og_i h
        refine ww_iast B 1 rfl i_19 dX8_keepBest_19 (ws' := [(a_t, .inr (8, [.ref b_may, .ref b_voyage, .ref b_lucky, .ref b_worths, .ref b_ranks, .int x_t_signs, .ref b_pad, .int x_t_day, .int x_t_reason, .ref b_bears, .ref b_due, .ref b_borneBy, .ref b_gone, .ref b_sunk, .ref b_times, .int x_t_asked, .ref b_whoBore, .ref a_gives, .ref a_best, .ref b_holds, .ref b_refused, .ref b_sums, .ref b_image, .ref b_isKept])), (a_best, .inl (cI, 6, .inl (upd f_best (Int32.toNatClampNeg v1) (f_gives (Int32.toNatClampNeg v1))))), (a_gives, .inl (cI, 6, .inl f_gives))]) rfl ?_
        obtain ⟨v1_20, ev1_20⟩ : ∃ y : Int32, y = (v1 + 1) := ⟨_, rfl⟩
        refine ww_iinc B dX8_keepBest_20 1 rfl (v := v1_20) (by rw [ev1_20]; rfl) (by decide) (lv' := [(1, .int v1_20), (0, .ref a_t)]) rfl ?_
        replace h := og_l ev1_20 h
        refine ww_goto B 2 dX8_keepBest_23 (by decide) ?_
        refine ww_lsel (lv' := [(0, .ref a_t), (1, .int v1_20)]) [1, 0] rfl ?_
        exact ih_2 _ _ h
  refine ww_iconst B dX8_keepBest_0 (v := 0) (by decide) ?_
  refine ww_istore_n B dX8_keepBest_1 (lv' := [(1, .int 0), (0, .ref a_t)]) (by decide) rfl ?_
  refine ww_lsel (lv' := [(0, .ref a_t), (1, .int 0)]) [1, 0] rfl ?_
  exact cut_2 _ _ _ h
noncomputable def m_X8_daysBy_202 (k5 : Int32 → Int32 → Int32 → (Nat → Int32) → (Nat → Int32) → (Nat → Int32) → Option (Int32 × ((Nat → Int32) × (Nat → Int32) × (Nat → Int32)))) (f_may : (Nat → Int32)) (f_voyage : (Nat → Int32)) (v1 : Int32) (v2 : Int32) (v3 : Int32) (f_best : (Nat → Int32)) (f_gives : (Nat → Int32)) (f_sums : (Nat → Int32)) : Option (Int32 × ((Nat → Int32) × (Nat → Int32) × (Nat → Int32))) := ogl (v3 + 1) (fun (v3_202 : Int32) => (k5 v1 v2 v3_202 f_best f_gives f_sums))
noncomputable def m_X8_daysBy_176 (k5 : Int32 → Int32 → Int32 → (Nat → Int32) → (Nat → Int32) → (Nat → Int32) → Option (Int32 × ((Nat → Int32) × (Nat → Int32) × (Nat → Int32)))) (k47 : Int32 → Int32 → Int32 → Int32 → Int32 → Int32 → Int32 → (Nat → Int32) → (Nat → Int32) → (Nat → Int32) → Option (Int32 × ((Nat → Int32) × (Nat → Int32) × (Nat → Int32)))) (f_may : (Nat → Int32)) (f_voyage : (Nat → Int32)) (v1 : Int32) (v2 : Int32) (v3 : Int32) (v4 : Int32) (v5 : Int32) (v7 : Int32) (s0 : Int32) (f_best : (Nat → Int32)) (f_gives : (Nat → Int32)) (f_sums : (Nat → Int32)) : Option (Int32 × ((Nat → Int32) × (Nat → Int32) × (Nat → Int32))) := ogl (v7 + (-1)) (fun (v7_178 : Int32) => (k47 v1 v2 v3 v4 v5 s0 v7_178 f_best f_gives f_sums))
noncomputable def m_X8_daysBy_133 (k5 : Int32 → Int32 → Int32 → (Nat → Int32) → (Nat → Int32) → (Nat → Int32) → Option (Int32 × ((Nat → Int32) × (Nat → Int32) × (Nat → Int32)))) (k47 : Int32 → Int32 → Int32 → Int32 → Int32 → Int32 → Int32 → (Nat → Int32) → (Nat → Int32) → (Nat → Int32) → Option (Int32 × ((Nat → Int32) × (Nat → Int32) × (Nat → Int32)))) (f_may : (Nat → Int32)) (f_voyage : (Nat → Int32)) (v1 : Int32) (v2 : Int32) (v3 : Int32) (v4 : Int32) (v6 : Int32) (v7 : Int32) (v8 : Int32) (s0 : Int32) (f_best : (Nat → Int32)) (f_gives : (Nat → Int32)) (f_sums : (Nat → Int32)) : Option (Int32 × ((Nat → Int32) × (Nat → Int32) × (Nat → Int32))) := ogi v8 5 (ogi v7 6 (ogi v8 5 (ogi v8 5 (if ((upd f_sums (Int32.toNatClampNeg v8) ((f_sums (Int32.toNatClampNeg v8)) + (f_voyage (Int32.toNatClampNeg v7)))) (Int32.toNatClampNeg v8)) ≤ v6 then ((m_X8_daysBy_176 k5 k47 f_may f_voyage v1 v2 v3 v4 s0 v7 v6 f_best f_gives (upd f_sums (Int32.toNatClampNeg v8) ((f_sums (Int32.toNatClampNeg v8)) + (f_voyage (Int32.toNatClampNeg v7)))))) else (ogi v8 5 ((m_X8_daysBy_176 k5 k47 f_may f_voyage v1 v2 v3 v4 s0 v7 ((upd f_sums (Int32.toNatClampNeg v8) ((f_sums (Int32.toNatClampNeg v8)) + (f_voyage (Int32.toNatClampNeg v7)))) (Int32.toNatClampNeg v8)) f_best f_gives (upd f_sums (Int32.toNatClampNeg v8) ((f_sums (Int32.toNatClampNeg v8)) + (f_voyage (Int32.toNatClampNeg v7)))))))))))
noncomputable def m_X8_daysBy_132 (k5 : Int32 → Int32 → Int32 → (Nat → Int32) → (Nat → Int32) → (Nat → Int32) → Option (Int32 × ((Nat → Int32) × (Nat → Int32) × (Nat → Int32)))) (k47 : Int32 → Int32 → Int32 → Int32 → Int32 → Int32 → Int32 → (Nat → Int32) → (Nat → Int32) → (Nat → Int32) → Option (Int32 × ((Nat → Int32) × (Nat → Int32) × (Nat → Int32)))) (f_may : (Nat → Int32)) (f_voyage : (Nat → Int32)) (v1 : Int32) (v2 : Int32) (v3 : Int32) (v4 : Int32) (v6 : Int32) (v7 : Int32) (v8 : Int32) (f_best : (Nat → Int32)) (f_gives : (Nat → Int32)) (f_sums : (Nat → Int32)) : Option (Int32 × ((Nat → Int32) × (Nat → Int32) × (Nat → Int32))) := (m_X8_daysBy_133 k5 k47 f_may f_voyage v1 v2 v3 v4 v6 v7 v8 0 f_best f_gives f_sums)
noncomputable def m_X8_daysBy_128 (k5 : Int32 → Int32 → Int32 → (Nat → Int32) → (Nat → Int32) → (Nat → Int32) → Option (Int32 × ((Nat → Int32) × (Nat → Int32) × (Nat → Int32)))) (k47 : Int32 → Int32 → Int32 → Int32 → Int32 → Int32 → Int32 → (Nat → Int32) → (Nat → Int32) → (Nat → Int32) → Option (Int32 × ((Nat → Int32) × (Nat → Int32) × (Nat → Int32)))) (f_may : (Nat → Int32)) (f_voyage : (Nat → Int32)) (v1 : Int32) (v2 : Int32) (v3 : Int32) (v4 : Int32) (v6 : Int32) (v7 : Int32) (v8 : Int32) (f_best : (Nat → Int32)) (f_gives : (Nat → Int32)) (f_sums : (Nat → Int32)) : Option (Int32 × ((Nat → Int32) × (Nat → Int32) × (Nat → Int32))) := (m_X8_daysBy_133 k5 k47 f_may f_voyage v1 v2 v3 v4 v6 v7 v8 1 f_best f_gives f_sums)
noncomputable def m_X8_daysBy_87 (k5 : Int32 → Int32 → Int32 → (Nat → Int32) → (Nat → Int32) → (Nat → Int32) → Option (Int32 × ((Nat → Int32) × (Nat → Int32) × (Nat → Int32)))) (k47 : Int32 → Int32 → Int32 → Int32 → Int32 → Int32 → Int32 → (Nat → Int32) → (Nat → Int32) → (Nat → Int32) → Option (Int32 × ((Nat → Int32) × (Nat → Int32) × (Nat → Int32)))) (f_may : (Nat → Int32)) (f_voyage : (Nat → Int32)) (v1 : Int32) (v2 : Int32) (v3 : Int32) (v4 : Int32) (v5 : Int32) (v6 : Int32) (v7 : Int32) (v8 : Int32) (s1 : Int32) (s2 : Int32) (f_best : (Nat → Int32)) (f_gives : (Nat → Int32)) (f_sums : (Nat → Int32)) : Option (Int32 × ((Nat → Int32) × (Nat → Int32) × (Nat → Int32))) := ogi s1 6 (if v5 = 0 then ((m_X8_daysBy_132 k5 k47 f_may f_voyage v1 v2 v3 v4 v6 v7 v8 f_best (upd f_gives (Int32.toNatClampNeg s1) s2) f_sums)) else (ogi v7 6 (if (f_voyage (Int32.toNatClampNeg v7)) ≤ 0 then (if v8 = 0 then ((m_X8_daysBy_128 k5 k47 f_may f_voyage v1 v2 v3 v4 v6 v7 v8 f_best (upd f_gives (Int32.toNatClampNeg s1) s2) f_sums)) else ((m_X8_daysBy_132 k5 k47 f_may f_voyage v1 v2 v3 v4 v6 v7 v8 f_best (upd f_gives (Int32.toNatClampNeg s1) s2) f_sums))) else (ogi v7 6 (ogb (m_X8_has (v1 &&& (f_may (Int32.toNatClampNeg v7))) v8) (fun q_114 => if q_114 = 0 then ((m_X8_daysBy_132 k5 k47 f_may f_voyage v1 v2 v3 v4 v6 v7 v8 f_best (upd f_gives (Int32.toNatClampNeg s1) s2) f_sums)) else ((m_X8_daysBy_128 k5 k47 f_may f_voyage v1 v2 v3 v4 v6 v7 v8 f_best (upd f_gives (Int32.toNatClampNeg s1) s2) f_sums))))))))
noncomputable def m_X8_daysBy_47b (k5 : Int32 → Int32 → Int32 → (Nat → Int32) → (Nat → Int32) → (Nat → Int32) → Option (Int32 × ((Nat → Int32) × (Nat → Int32) × (Nat → Int32)))) (k47 : Int32 → Int32 → Int32 → Int32 → Int32 → Int32 → Int32 → (Nat → Int32) → (Nat → Int32) → (Nat → Int32) → Option (Int32 × ((Nat → Int32) × (Nat → Int32) × (Nat → Int32)))) (f_may : (Nat → Int32)) (f_voyage : (Nat → Int32)) (v1 : Int32) (v2 : Int32) (v3 : Int32) (v4 : Int32) (v5 : Int32) (v6 : Int32) (v7 : Int32) (f_best : (Nat → Int32)) (f_gives : (Nat → Int32)) (f_sums : (Nat → Int32)) : Option (Int32 × ((Nat → Int32) × (Nat → Int32) × (Nat → Int32))) := if v7 < 0 then (if v5 = 0 then ((m_X8_daysBy_202 k5 f_may f_voyage v1 v2 v3 f_best f_gives f_sums)) else (if v2 ≤ v6 then ((m_X8_daysBy_202 k5 f_may f_voyage v1 v2 v3 f_best f_gives f_sums)) else (ogb (m_X8_keepBest f_gives f_best) (fun q_199 => (m_X8_daysBy_202 k5 f_may f_voyage v1 v6 v3 q_199 f_gives f_sums))))) else (ogl (v4 - v4 / 5 * 5) (fun (v8_56 : Int32) => ogl (v4 / 5) (fun (v4_62 : Int32) => ogi v7 6 (if (f_voyage (Int32.toNatClampNeg v7)) ≤ 0 then ((m_X8_daysBy_87 k5 k47 f_may f_voyage v1 v2 v3 v4_62 v5 v6 v7 v8_56 v7 (-6) f_best f_gives f_sums)) else ((m_X8_daysBy_87 k5 k47 f_may f_voyage v1 v2 v3 v4_62 v5 v6 v7 v8_56 v7 v8_56 f_best f_gives f_sums))))))
noncomputable def m_X8_daysBy_47 (k5 : Int32 → Int32 → Int32 → (Nat → Int32) → (Nat → Int32) → (Nat → Int32) → Option (Int32 × ((Nat → Int32) × (Nat → Int32) × (Nat → Int32)))) (f_may : (Nat → Int32)) (f_voyage : (Nat → Int32)) (fuel : Nat) : Int32 → Int32 → Int32 → Int32 → Int32 → Int32 → Int32 → (Nat → Int32) → (Nat → Int32) → (Nat → Int32) → Option (Int32 × ((Nat → Int32) × (Nat → Int32) × (Nat → Int32))) := Nat.rec (fun _ _ _ _ _ _ _ _ _ _ => none) (fun _ k47 => m_X8_daysBy_47b k5 k47 f_may f_voyage) fuel
noncomputable def m_X8_daysBy_24b (k5 : Int32 → Int32 → Int32 → (Nat → Int32) → (Nat → Int32) → (Nat → Int32) → Option (Int32 × ((Nat → Int32) × (Nat → Int32) × (Nat → Int32)))) (k24 : Int32 → Int32 → Int32 → Int32 → Int32 → Int32 → Int32 → (Nat → Int32) → (Nat → Int32) → (Nat → Int32) → Option (Int32 × ((Nat → Int32) × (Nat → Int32) × (Nat → Int32)))) (f_may : (Nat → Int32)) (f_voyage : (Nat → Int32)) (v1 : Int32) (v2 : Int32) (v3 : Int32) (v4 : Int32) (v5 : Int32) (v6 : Int32) (v7 : Int32) (f_best : (Nat → Int32)) (f_gives : (Nat → Int32)) (f_sums : (Nat → Int32)) : Option (Int32 × ((Nat → Int32) × (Nat → Int32) × (Nat → Int32))) := if 5 ≤ v7 then ((m_X8_daysBy_47 k5 f_may f_voyage 1000000 v1 v2 v3 v4 v5 v6 5 f_best f_gives f_sums)) else (ogi v7 5 (ogl (v7 + 1) (fun (v7_38 : Int32) => (k24 v1 v2 v3 v4 v5 v6 v7_38 f_best f_gives (upd f_sums (Int32.toNatClampNeg v7) 0)))))
noncomputable def m_X8_daysBy_24 (k5 : Int32 → Int32 → Int32 → (Nat → Int32) → (Nat → Int32) → (Nat → Int32) → Option (Int32 × ((Nat → Int32) × (Nat → Int32) × (Nat → Int32)))) (f_may : (Nat → Int32)) (f_voyage : (Nat → Int32)) (fuel : Nat) : Int32 → Int32 → Int32 → Int32 → Int32 → Int32 → Int32 → (Nat → Int32) → (Nat → Int32) → (Nat → Int32) → Option (Int32 × ((Nat → Int32) × (Nat → Int32) × (Nat → Int32))) := Nat.rec (fun _ _ _ _ _ _ _ _ _ _ => none) (fun _ k24 => m_X8_daysBy_24b k5 k24 f_may f_voyage) fuel
noncomputable def m_X8_daysBy_5b (k5 : Int32 → Int32 → Int32 → (Nat → Int32) → (Nat → Int32) → (Nat → Int32) → Option (Int32 × ((Nat → Int32) × (Nat → Int32) × (Nat → Int32)))) (f_may : (Nat → Int32)) (f_voyage : (Nat → Int32)) (v1 : Int32) (v2 : Int32) (v3 : Int32) (f_best : (Nat → Int32)) (f_gives : (Nat → Int32)) (f_sums : (Nat → Int32)) : Option (Int32 × ((Nat → Int32) × (Nat → Int32) × (Nat → Int32))) := if 15625 ≤ v3 then (some (v2, (f_best, f_gives, f_sums))) else ((m_X8_daysBy_24 k5 f_may f_voyage 1000000 v1 v2 v3 v3 1 0 0 f_best f_gives f_sums))
noncomputable def m_X8_daysBy_5 (f_may : (Nat → Int32)) (f_voyage : (Nat → Int32)) (fuel : Nat) : Int32 → Int32 → Int32 → (Nat → Int32) → (Nat → Int32) → (Nat → Int32) → Option (Int32 × ((Nat → Int32) × (Nat → Int32) × (Nat → Int32))) := Nat.rec (fun _ _ _ _ _ _ => none) (fun _ k5 => m_X8_daysBy_5b k5 f_may f_voyage) fuel
noncomputable def m_X8_daysBy (f_may : (Nat → Int32)) (f_voyage : (Nat → Int32)) (f_best : (Nat → Int32)) (f_gives : (Nat → Int32)) (f_sums : (Nat → Int32)) (v1 : Int32) : Option (Int32 × ((Nat → Int32) × (Nat → Int32) × (Nat → Int32))) := (m_X8_daysBy_5 f_may f_voyage 1000000 v1 1000000 0 f_best f_gives f_sums)
set_option maxHeartbeats 4000000 in
set_option maxRecDepth 100000 in
theorem c_X8_daysBy (l : Launch) (D : va_G) (cI cZ : ClassId) (a_t a_best a_gives a_may a_sums a_voyage b_lucky b_worths b_ranks b_pad b_bears b_due b_borneBy b_gone b_sunk b_times b_whoBore b_holds b_refused b_image b_isKept : Nat) (f_best : (Nat → Int32)) (f_gives : (Nat → Int32)) (f_may : (Nat → Int32)) (f_sums : (Nat → Int32)) (f_voyage : (Nat → Int32)) (x_t_signs : Int32) (x_t_day : Int32) (x_t_reason : Int32) (x_t_asked : Int32) (v1 : Int32) {res : (Int32 × ((Nat → Int32) × (Nat → Int32) × (Nat → Int32)))} (h : m_X8_daysBy f_may f_voyage f_best f_gives f_sums v1 = some res) : CT l yX8_daysBy wsX8_daysBy ({ frames := 1, cells := 0, slots := 0, locals := 21 } : Room) D cI cZ [.ref a_t, .int v1] [(a_t, .inr (8, [.ref a_may, .ref a_voyage, .ref b_lucky, .ref b_worths, .ref b_ranks, .int x_t_signs, .ref b_pad, .int x_t_day, .int x_t_reason, .ref b_bears, .ref b_due, .ref b_borneBy, .ref b_gone, .ref b_sunk, .ref b_times, .int x_t_asked, .ref b_whoBore, .ref a_gives, .ref a_best, .ref b_holds, .ref b_refused, .ref a_sums, .ref b_image, .ref b_isKept])), (a_best, .inl (cI, 6, .inl f_best)), (a_gives, .inl (cI, 6, .inl f_gives)), (a_may, .inl (cI, 6, .inl f_may)), (a_sums, .inl (cI, 5, .inl f_sums)), (a_voyage, .inl (cI, 6, .inl f_voyage))] (QI D [(a_t, .inr (8, [.ref a_may, .ref a_voyage, .ref b_lucky, .ref b_worths, .ref b_ranks, .int x_t_signs, .ref b_pad, .int x_t_day, .int x_t_reason, .ref b_bears, .ref b_due, .ref b_borneBy, .ref b_gone, .ref b_sunk, .ref b_times, .int x_t_asked, .ref b_whoBore, .ref a_gives, .ref a_best, .ref b_holds, .ref b_refused, .ref a_sums, .ref b_image, .ref b_isKept])), (a_best, .inl (cI, 6, .inl f_best)), (a_gives, .inl (cI, 6, .inl f_gives)), (a_may, .inl (cI, 6, .inl f_may)), (a_sums, .inl (cI, 5, .inl f_sums)), (a_voyage, .inl (cI, 6, .inl f_voyage))] (fun (r : Int32) (u : (Nat → Int32) × (Nat → Int32) × (Nat → Int32)) => r = res.1 ∧ u = res.2) (fun (u : (Nat → Int32) × (Nat → Int32) × (Nat → Int32)) => [(a_t, .inr (8, [.ref a_may, .ref a_voyage, .ref b_lucky, .ref b_worths, .ref b_ranks, .int x_t_signs, .ref b_pad, .int x_t_day, .int x_t_reason, .ref b_bears, .ref b_due, .ref b_borneBy, .ref b_gone, .ref b_sunk, .ref b_times, .int x_t_asked, .ref b_whoBore, .ref a_gives, .ref a_best, .ref b_holds, .ref b_refused, .ref a_sums, .ref b_image, .ref b_isKept])), (a_best, .inl (cI, 6, .inl u.1)), (a_gives, .inl (cI, 6, .inl u.2.1)), (a_may, .inl (cI, 6, .inl f_may)), (a_sums, .inl (cI, 5, .inl u.2.2)), (a_voyage, .inl (cI, 6, .inl f_voyage))])) 0 0 := by
  have h : ((m_X8_daysBy_5 f_may f_voyage 1000000 v1 1000000 0 f_best f_gives f_sums) : Option (Int32 × ((Nat → Int32) × (Nat → Int32) × (Nat → Int32)))) = some res := h
  refine ct_entry (cc := cX8_daysBy) (nl := 9) (ret := (some .int)) (own := RX8) (lv0 := [(0, .ref a_t), (1, .int v1)]) (by decide) rfl rfl (Nat.le_of_ble_eq_true rfl) rfl ?_
  intro p e s m args below meth c A Q hA hQ hr hnm B
  have iX8 : ∀ w ∈ wsX80, w ∈ wsX8_daysBy := by decide +kernel
  have cut_5 : ∀ (fuel : Nat) (v1 : Int32) (v2 : Int32) (v3 : Int32) (f_best : (Nat → Int32)) (f_gives : (Nat → Int32)) (f_sums : (Nat → Int32)), m_X8_daysBy_5 f_may f_voyage fuel v1 v2 v3 f_best f_gives f_sums = some res → WW p l e (headSpec wsX8_daysBy ({ frames := 1, cells := 0, slots := 0, locals := 21 } : Room)).room s m args below meth c D A 9 0 0 Q [(a_t, .inr (8, [.ref a_may, .ref a_voyage, .ref b_lucky, .ref b_worths, .ref b_ranks, .int x_t_signs, .ref b_pad, .int x_t_day, .int x_t_reason, .ref b_bears, .ref b_due, .ref b_borneBy, .ref b_gone, .ref b_sunk, .ref b_times, .int x_t_asked, .ref b_whoBore, .ref a_gives, .ref a_best, .ref b_holds, .ref b_refused, .ref a_sums, .ref b_image, .ref b_isKept])), (a_best, .inl (cI, 6, .inl f_best)), (a_gives, .inl (cI, 6, .inl f_gives)), (a_may, .inl (cI, 6, .inl f_may)), (a_sums, .inl (cI, 5, .inl f_sums)), (a_voyage, .inl (cI, 6, .inl f_voyage))] [(0, .ref a_t), (1, .int v1), (2, .int v2), (3, .int v3)] [] 5 := by
    intro fuel_5
    induction fuel_5 with
    | zero => intro v1 v2 v3 f_best f_gives f_sums h; exact og_0 h
    | succ fuel_5 ih_5 =>
      have cut_202 : ∀ (v1 : Int32) (v2 : Int32) (v3 : Int32) (f_best : (Nat → Int32)) (f_gives : (Nat → Int32)) (f_sums : (Nat → Int32)), m_X8_daysBy_202 (m_X8_daysBy_5 f_may f_voyage fuel_5) f_may f_voyage v1 v2 v3 f_best f_gives f_sums = some res → WW p l e (headSpec wsX8_daysBy ({ frames := 1, cells := 0, slots := 0, locals := 21 } : Room)).room s m args below meth c D A 9 0 0 Q [(a_t, .inr (8, [.ref a_may, .ref a_voyage, .ref b_lucky, .ref b_worths, .ref b_ranks, .int x_t_signs, .ref b_pad, .int x_t_day, .int x_t_reason, .ref b_bears, .ref b_due, .ref b_borneBy, .ref b_gone, .ref b_sunk, .ref b_times, .int x_t_asked, .ref b_whoBore, .ref a_gives, .ref a_best, .ref b_holds, .ref b_refused, .ref a_sums, .ref b_image, .ref b_isKept])), (a_best, .inl (cI, 6, .inl f_best)), (a_gives, .inl (cI, 6, .inl f_gives)), (a_may, .inl (cI, 6, .inl f_may)), (a_sums, .inl (cI, 5, .inl f_sums)), (a_voyage, .inl (cI, 6, .inl f_voyage))] [(0, .ref a_t), (1, .int v1), (2, .int v2), (3, .int v3)] [] 202 := by
        intro v1 v2 v3 f_best f_gives f_sums h
        replace h : (ogl (v3 + 1) (fun (v3_202 : Int32) => ((m_X8_daysBy_5 f_may f_voyage fuel_5) v1 v2 v3_202 f_best f_gives f_sums)) : Option (Int32 × ((Nat → Int32) × (Nat → Int32) × (Nat → Int32)))) = some res := h
        obtain ⟨v3_202, ev3_202⟩ : ∃ y : Int32, y = (v3 + 1) := ⟨_, rfl⟩
        refine ww_iinc B dX8_daysBy_202 3 rfl (v := v3_202) (by rw [ev3_202]; rfl) (by decide) (lv' := [(3, .int v3_202), (0, .ref a_t), (1, .int v1), (2, .int v2)]) rfl ?_
        replace h := og_l ev3_202 h
        refine ww_goto B 5 dX8_daysBy_205 (by decide) ?_
        refine ww_lsel (lv' := [(0, .ref a_t), (1, .int v1), (2, .int v2), (3, .int v3_202)]) [1, 2, 3, 0] rfl ?_
        exact ih_5 _ _ _ _ _ _ h
      have cut_47 : ∀ (fuel : Nat) (v1 : Int32) (v2 : Int32) (v3 : Int32) (v4 : Int32) (v5 : Int32) (v6 : Int32) (v7 : Int32) (f_best : (Nat → Int32)) (f_gives : (Nat → Int32)) (f_sums : (Nat → Int32)), m_X8_daysBy_47 (m_X8_daysBy_5 f_may f_voyage fuel_5) f_may f_voyage fuel v1 v2 v3 v4 v5 v6 v7 f_best f_gives f_sums = some res → WW p l e (headSpec wsX8_daysBy ({ frames := 1, cells := 0, slots := 0, locals := 21 } : Room)).room s m args below meth c D A 9 0 0 Q [(a_t, .inr (8, [.ref a_may, .ref a_voyage, .ref b_lucky, .ref b_worths, .ref b_ranks, .int x_t_signs, .ref b_pad, .int x_t_day, .int x_t_reason, .ref b_bears, .ref b_due, .ref b_borneBy, .ref b_gone, .ref b_sunk, .ref b_times, .int x_t_asked, .ref b_whoBore, .ref a_gives, .ref a_best, .ref b_holds, .ref b_refused, .ref a_sums, .ref b_image, .ref b_isKept])), (a_best, .inl (cI, 6, .inl f_best)), (a_gives, .inl (cI, 6, .inl f_gives)), (a_may, .inl (cI, 6, .inl f_may)), (a_sums, .inl (cI, 5, .inl f_sums)), (a_voyage, .inl (cI, 6, .inl f_voyage))] [(0, .ref a_t), (1, .int v1), (2, .int v2), (3, .int v3), (4, .int v4), (5, .int v5), (6, .int v6), (7, .int v7)] [] 47 := by
        intro fuel_47
        induction fuel_47 with
        | zero => intro v1 v2 v3 v4 v5 v6 v7 f_best f_gives f_sums h; exact og_0 h
        | succ fuel_47 ih_47 =>
          have cut_176 : ∀ (v1 : Int32) (v2 : Int32) (v3 : Int32) (v4 : Int32) (v5 : Int32) (v7 : Int32) (s0 : Int32) (f_best : (Nat → Int32)) (f_gives : (Nat → Int32)) (f_sums : (Nat → Int32)), m_X8_daysBy_176 (m_X8_daysBy_5 f_may f_voyage fuel_5) (m_X8_daysBy_47 (m_X8_daysBy_5 f_may f_voyage fuel_5) f_may f_voyage fuel_47) f_may f_voyage v1 v2 v3 v4 v5 v7 s0 f_best f_gives f_sums = some res → WW p l e (headSpec wsX8_daysBy ({ frames := 1, cells := 0, slots := 0, locals := 21 } : Room)).room s m args below meth c D A 9 0 0 Q [(a_t, .inr (8, [.ref a_may, .ref a_voyage, .ref b_lucky, .ref b_worths, .ref b_ranks, .int x_t_signs, .ref b_pad, .int x_t_day, .int x_t_reason, .ref b_bears, .ref b_due, .ref b_borneBy, .ref b_gone, .ref b_sunk, .ref b_times, .int x_t_asked, .ref b_whoBore, .ref a_gives, .ref a_best, .ref b_holds, .ref b_refused, .ref a_sums, .ref b_image, .ref b_isKept])), (a_best, .inl (cI, 6, .inl f_best)), (a_gives, .inl (cI, 6, .inl f_gives)), (a_may, .inl (cI, 6, .inl f_may)), (a_sums, .inl (cI, 5, .inl f_sums)), (a_voyage, .inl (cI, 6, .inl f_voyage))] [(0, .ref a_t), (1, .int v1), (2, .int v2), (3, .int v3), (4, .int v4), (5, .int v5), (7, .int v7)] [.int s0] 176 := by
            intro v1 v2 v3 v4 v5 v7 s0 f_best f_gives f_sums h
            replace h : (ogl (v7 + (-1)) (fun (v7_178 : Int32) => ((m_X8_daysBy_47 (m_X8_daysBy_5 f_may f_voyage fuel_5) f_may f_voyage fuel_47) v1 v2 v3 v4 v5 s0 v7_178 f_best f_gives f_sums)) : Option (Int32 × ((Nat → Int32) × (Nat → Int32) × (Nat → Int32)))) = some res := h
            refine ww_istore B dX8_daysBy_176 (lv' := [(6, .int s0), (0, .ref a_t), (1, .int v1), (2, .int v2), (3, .int v3), (4, .int v4), (5, .int v5), (7, .int v7)]) (by decide) rfl ?_
            obtain ⟨v7_178, ev7_178⟩ : ∃ y : Int32, y = (v7 + (-1)) := ⟨_, rfl⟩
            refine ww_iinc B dX8_daysBy_178 7 rfl (v := v7_178) (by rw [ev7_178]; rfl) (by decide) (lv' := [(7, .int v7_178), (6, .int s0), (0, .ref a_t), (1, .int v1), (2, .int v2), (3, .int v3), (4, .int v4), (5, .int v5)]) rfl ?_
            replace h := og_l ev7_178 h
            refine ww_goto B 47 dX8_daysBy_181 (by decide) ?_
            refine ww_lsel (lv' := [(0, .ref a_t), (1, .int v1), (2, .int v2), (3, .int v3), (4, .int v4), (5, .int v5), (6, .int s0), (7, .int v7_178)]) [2, 3, 4, 5, 6, 7, 1, 0] rfl ?_
            exact ih_47 _ _ _ _ _ _ _ _ _ _ h
          have cut_133 : ∀ (v1 : Int32) (v2 : Int32) (v3 : Int32) (v4 : Int32) (v6 : Int32) (v7 : Int32) (v8 : Int32) (s0 : Int32) (f_best : (Nat → Int32)) (f_gives : (Nat → Int32)) (f_sums : (Nat → Int32)), m_X8_daysBy_133 (m_X8_daysBy_5 f_may f_voyage fuel_5) (m_X8_daysBy_47 (m_X8_daysBy_5 f_may f_voyage fuel_5) f_may f_voyage fuel_47) f_may f_voyage v1 v2 v3 v4 v6 v7 v8 s0 f_best f_gives f_sums = some res → WW p l e (headSpec wsX8_daysBy ({ frames := 1, cells := 0, slots := 0, locals := 21 } : Room)).room s m args below meth c D A 9 0 0 Q [(a_t, .inr (8, [.ref a_may, .ref a_voyage, .ref b_lucky, .ref b_worths, .ref b_ranks, .int x_t_signs, .ref b_pad, .int x_t_day, .int x_t_reason, .ref b_bears, .ref b_due, .ref b_borneBy, .ref b_gone, .ref b_sunk, .ref b_times, .int x_t_asked, .ref b_whoBore, .ref a_gives, .ref a_best, .ref b_holds, .ref b_refused, .ref a_sums, .ref b_image, .ref b_isKept])), (a_best, .inl (cI, 6, .inl f_best)), (a_gives, .inl (cI, 6, .inl f_gives)), (a_may, .inl (cI, 6, .inl f_may)), (a_sums, .inl (cI, 5, .inl f_sums)), (a_voyage, .inl (cI, 6, .inl f_voyage))] [(0, .ref a_t), (1, .int v1), (2, .int v2), (3, .int v3), (4, .int v4), (6, .int v6), (7, .int v7), (8, .int v8)] [.int s0] 133 := by
            intro v1 v2 v3 v4 v6 v7 v8 s0 f_best f_gives f_sums h
            replace h : (ogi v8 5 (ogi v7 6 (ogi v8 5 (ogi v8 5 (if ((upd f_sums (Int32.toNatClampNeg v8) ((f_sums (Int32.toNatClampNeg v8)) + (f_voyage (Int32.toNatClampNeg v7)))) (Int32.toNatClampNeg v8)) ≤ v6 then ((m_X8_daysBy_176 (m_X8_daysBy_5 f_may f_voyage fuel_5) (m_X8_daysBy_47 (m_X8_daysBy_5 f_may f_voyage fuel_5) f_may f_voyage fuel_47) f_may f_voyage v1 v2 v3 v4 s0 v7 v6 f_best f_gives (upd f_sums (Int32.toNatClampNeg v8) ((f_sums (Int32.toNatClampNeg v8)) + (f_voyage (Int32.toNatClampNeg v7)))))) else (ogi v8 5 ((m_X8_daysBy_176 (m_X8_daysBy_5 f_may f_voyage fuel_5) (m_X8_daysBy_47 (m_X8_daysBy_5 f_may f_voyage fuel_5) f_may f_voyage fuel_47) f_may f_voyage v1 v2 v3 v4 s0 v7 ((upd f_sums (Int32.toNatClampNeg v8) ((f_sums (Int32.toNatClampNeg v8)) + (f_voyage (Int32.toNatClampNeg v7)))) (Int32.toNatClampNeg v8)) f_best f_gives (upd f_sums (Int32.toNatClampNeg v8) ((f_sums (Int32.toNatClampNeg v8)) + (f_voyage (Int32.toNatClampNeg v7))))))))))) : Option (Int32 × ((Nat → Int32) × (Nat → Int32) × (Nat → Int32)))) = some res := h
            refine ww_istore B dX8_daysBy_133 (lv' := [(5, .int s0), (0, .ref a_t), (1, .int v1), (2, .int v2), (3, .int v3), (4, .int v4), (6, .int v6), (7, .int v7), (8, .int v8)]) (by decide) rfl ?_
            refine ww_aload_n B dX8_daysBy_135 1 rfl ?_
            refine ww_get (ci := 8) (T := TX8) (C := RX8) (N := 24) B iX8 0 rfl rfl 21 (by decide) (by decide +kernel) rfl rfl dX8_daysBy_136 ?_
            refine ww_iload B dX8_daysBy_139 8 rfl ?_
            refine ww_dup2 B dX8_daysBy_141 rfl rfl ?_
            obtain ⟨i_142, h⟩ := og_i h
            refine ww_iald B 4 rfl i_142 dX8_daysBy_142 ?_
            refine ww_aload_n B dX8_daysBy_143 1 rfl ?_
            refine ww_get (ci := 8) (T := TX8) (C := RX8) (N := 24) B iX8 0 rfl rfl 1 (by decide) (by decide +kernel) rfl rfl dX8_daysBy_144 ?_
            refine ww_iload B dX8_daysBy_147 7 rfl ?_
            obtain ⟨i_149, h⟩ := og_i h
            refine ww_iald B 5 rfl i_149 dX8_daysBy_149 ?_
            refine ww_iadd B dX8_daysBy_150 ?_
            obtain ⟨i_151, h⟩ := og_i h
            refine ww_iast B 4 rfl i_151 dX8_daysBy_151 (ws' := [(a_t, .inr (8, [.ref a_may, .ref a_voyage, .ref b_lucky, .ref b_worths, .ref b_ranks, .int x_t_signs, .ref b_pad, .int x_t_day, .int x_t_reason, .ref b_bears, .ref b_due, .ref b_borneBy, .ref b_gone, .ref b_sunk, .ref b_times, .int x_t_asked, .ref b_whoBore, .ref a_gives, .ref a_best, .ref b_holds, .ref b_refused, .ref a_sums, .ref b_image, .ref b_isKept])), (a_best, .inl (cI, 6, .inl f_best)), (a_gives, .inl (cI, 6, .inl f_gives)), (a_may, .inl (cI, 6, .inl f_may)), (a_sums, .inl (cI, 5, .inl (upd f_sums (Int32.toNatClampNeg v8) ((f_sums (Int32.toNatClampNeg v8)) + (f_voyage (Int32.toNatClampNeg v7)))))), (a_voyage, .inl (cI, 6, .inl f_voyage))]) rfl ?_
            refine ww_aload_n B dX8_daysBy_152 1 rfl ?_
            refine ww_get (ci := 8) (T := TX8) (C := RX8) (N := 24) B iX8 0 rfl rfl 21 (by decide) (by decide +kernel) rfl rfl dX8_daysBy_153 ?_
            refine ww_iload B dX8_daysBy_156 8 rfl ?_
            obtain ⟨i_158, h⟩ := og_i h
            refine ww_iald B 4 rfl i_158 dX8_daysBy_158 ?_
            refine ww_iload B dX8_daysBy_159 6 rfl ?_
            refine ww_icmp_le B 174 dX8_daysBy_161 (by decide) (fun c_161 => ?_) (fun c_161 => ?_)
            · replace h := og_t c_161 h
              refine ww_iload B dX8_daysBy_174 6 rfl ?_
              refine ww_lsel (lv' := [(0, .ref a_t), (1, .int v1), (2, .int v2), (3, .int v3), (4, .int v4), (5, .int s0), (7, .int v7)]) [1, 2, 3, 4, 5, 0, 7] rfl ?_
              exact cut_176 _ _ _ _ _ _ _ _ _ _ h
            · replace h := og_f c_161 h
              refine ww_aload_n B dX8_daysBy_164 1 rfl ?_
              refine ww_get (ci := 8) (T := TX8) (C := RX8) (N := 24) B iX8 0 rfl rfl 21 (by decide) (by decide +kernel) rfl rfl dX8_daysBy_165 ?_
              refine ww_iload B dX8_daysBy_168 8 rfl ?_
              obtain ⟨i_170, h⟩ := og_i h
              refine ww_iald B 4 rfl i_170 dX8_daysBy_170 ?_
              refine ww_goto B 176 dX8_daysBy_171 (by decide) ?_
              refine ww_lsel (lv' := [(0, .ref a_t), (1, .int v1), (2, .int v2), (3, .int v3), (4, .int v4), (5, .int s0), (7, .int v7)]) [1, 2, 3, 4, 5, 0, 7] rfl ?_
              exact cut_176 _ _ _ _ _ _ _ _ _ _ h
          have cut_132 : ∀ (v1 : Int32) (v2 : Int32) (v3 : Int32) (v4 : Int32) (v6 : Int32) (v7 : Int32) (v8 : Int32) (f_best : (Nat → Int32)) (f_gives : (Nat → Int32)) (f_sums : (Nat → Int32)), m_X8_daysBy_132 (m_X8_daysBy_5 f_may f_voyage fuel_5) (m_X8_daysBy_47 (m_X8_daysBy_5 f_may f_voyage fuel_5) f_may f_voyage fuel_47) f_may f_voyage v1 v2 v3 v4 v6 v7 v8 f_best f_gives f_sums = some res → WW p l e (headSpec wsX8_daysBy ({ frames := 1, cells := 0, slots := 0, locals := 21 } : Room)).room s m args below meth c D A 9 0 0 Q [(a_t, .inr (8, [.ref a_may, .ref a_voyage, .ref b_lucky, .ref b_worths, .ref b_ranks, .int x_t_signs, .ref b_pad, .int x_t_day, .int x_t_reason, .ref b_bears, .ref b_due, .ref b_borneBy, .ref b_gone, .ref b_sunk, .ref b_times, .int x_t_asked, .ref b_whoBore, .ref a_gives, .ref a_best, .ref b_holds, .ref b_refused, .ref a_sums, .ref b_image, .ref b_isKept])), (a_best, .inl (cI, 6, .inl f_best)), (a_gives, .inl (cI, 6, .inl f_gives)), (a_may, .inl (cI, 6, .inl f_may)), (a_sums, .inl (cI, 5, .inl f_sums)), (a_voyage, .inl (cI, 6, .inl f_voyage))] [(0, .ref a_t), (1, .int v1), (2, .int v2), (3, .int v3), (4, .int v4), (6, .int v6), (7, .int v7), (8, .int v8)] [] 132 := by
            intro v1 v2 v3 v4 v6 v7 v8 f_best f_gives f_sums h
            replace h : ((m_X8_daysBy_133 (m_X8_daysBy_5 f_may f_voyage fuel_5) (m_X8_daysBy_47 (m_X8_daysBy_5 f_may f_voyage fuel_5) f_may f_voyage fuel_47) f_may f_voyage v1 v2 v3 v4 v6 v7 v8 0 f_best f_gives f_sums) : Option (Int32 × ((Nat → Int32) × (Nat → Int32) × (Nat → Int32)))) = some res := h
            refine ww_iconst B dX8_daysBy_132 (v := 0) (by decide) ?_
            exact cut_133 _ _ _ _ _ _ _ _ _ _ _ h
          have cut_128 : ∀ (v1 : Int32) (v2 : Int32) (v3 : Int32) (v4 : Int32) (v6 : Int32) (v7 : Int32) (v8 : Int32) (f_best : (Nat → Int32)) (f_gives : (Nat → Int32)) (f_sums : (Nat → Int32)), m_X8_daysBy_128 (m_X8_daysBy_5 f_may f_voyage fuel_5) (m_X8_daysBy_47 (m_X8_daysBy_5 f_may f_voyage fuel_5) f_may f_voyage fuel_47) f_may f_voyage v1 v2 v3 v4 v6 v7 v8 f_best f_gives f_sums = some res → WW p l e (headSpec wsX8_daysBy ({ frames := 1, cells := 0, slots := 0, locals := 21 } : Room)).room s m args below meth c D A 9 0 0 Q [(a_t, .inr (8, [.ref a_may, .ref a_voyage, .ref b_lucky, .ref b_worths, .ref b_ranks, .int x_t_signs, .ref b_pad, .int x_t_day, .int x_t_reason, .ref b_bears, .ref b_due, .ref b_borneBy, .ref b_gone, .ref b_sunk, .ref b_times, .int x_t_asked, .ref b_whoBore, .ref a_gives, .ref a_best, .ref b_holds, .ref b_refused, .ref a_sums, .ref b_image, .ref b_isKept])), (a_best, .inl (cI, 6, .inl f_best)), (a_gives, .inl (cI, 6, .inl f_gives)), (a_may, .inl (cI, 6, .inl f_may)), (a_sums, .inl (cI, 5, .inl f_sums)), (a_voyage, .inl (cI, 6, .inl f_voyage))] [(0, .ref a_t), (1, .int v1), (2, .int v2), (3, .int v3), (4, .int v4), (6, .int v6), (7, .int v7), (8, .int v8)] [] 128 := by
            intro v1 v2 v3 v4 v6 v7 v8 f_best f_gives f_sums h
            replace h : ((m_X8_daysBy_133 (m_X8_daysBy_5 f_may f_voyage fuel_5) (m_X8_daysBy_47 (m_X8_daysBy_5 f_may f_voyage fuel_5) f_may f_voyage fuel_47) f_may f_voyage v1 v2 v3 v4 v6 v7 v8 1 f_best f_gives f_sums) : Option (Int32 × ((Nat → Int32) × (Nat → Int32) × (Nat → Int32)))) = some res := h
            refine ww_iconst B dX8_daysBy_128 (v := 1) (by decide) ?_
            refine ww_goto B 133 dX8_daysBy_129 (by decide) ?_
            exact cut_133 _ _ _ _ _ _ _ _ _ _ _ h
          have cut_87 : ∀ (v1 : Int32) (v2 : Int32) (v3 : Int32) (v4 : Int32) (v5 : Int32) (v6 : Int32) (v7 : Int32) (v8 : Int32) (s1 : Int32) (s2 : Int32) (f_best : (Nat → Int32)) (f_gives : (Nat → Int32)) (f_sums : (Nat → Int32)), m_X8_daysBy_87 (m_X8_daysBy_5 f_may f_voyage fuel_5) (m_X8_daysBy_47 (m_X8_daysBy_5 f_may f_voyage fuel_5) f_may f_voyage fuel_47) f_may f_voyage v1 v2 v3 v4 v5 v6 v7 v8 s1 s2 f_best f_gives f_sums = some res → WW p l e (headSpec wsX8_daysBy ({ frames := 1, cells := 0, slots := 0, locals := 21 } : Room)).room s m args below meth c D A 9 0 0 Q [(a_t, .inr (8, [.ref a_may, .ref a_voyage, .ref b_lucky, .ref b_worths, .ref b_ranks, .int x_t_signs, .ref b_pad, .int x_t_day, .int x_t_reason, .ref b_bears, .ref b_due, .ref b_borneBy, .ref b_gone, .ref b_sunk, .ref b_times, .int x_t_asked, .ref b_whoBore, .ref a_gives, .ref a_best, .ref b_holds, .ref b_refused, .ref a_sums, .ref b_image, .ref b_isKept])), (a_best, .inl (cI, 6, .inl f_best)), (a_gives, .inl (cI, 6, .inl f_gives)), (a_may, .inl (cI, 6, .inl f_may)), (a_sums, .inl (cI, 5, .inl f_sums)), (a_voyage, .inl (cI, 6, .inl f_voyage))] [(0, .ref a_t), (1, .int v1), (2, .int v2), (3, .int v3), (4, .int v4), (5, .int v5), (6, .int v6), (7, .int v7), (8, .int v8)] [.int s2, .int s1, .ref a_gives] 87 := by
            intro v1 v2 v3 v4 v5 v6 v7 v8 s1 s2 f_best f_gives f_sums h
            replace h : (ogi s1 6 (if v5 = 0 then ((m_X8_daysBy_132 (m_X8_daysBy_5 f_may f_voyage fuel_5) (m_X8_daysBy_47 (m_X8_daysBy_5 f_may f_voyage fuel_5) f_may f_voyage fuel_47) f_may f_voyage v1 v2 v3 v4 v6 v7 v8 f_best (upd f_gives (Int32.toNatClampNeg s1) s2) f_sums)) else (ogi v7 6 (if (f_voyage (Int32.toNatClampNeg v7)) ≤ 0 then (if v8 = 0 then ((m_X8_daysBy_128 (m_X8_daysBy_5 f_may f_voyage fuel_5) (m_X8_daysBy_47 (m_X8_daysBy_5 f_may f_voyage fuel_5) f_may f_voyage fuel_47) f_may f_voyage v1 v2 v3 v4 v6 v7 v8 f_best (upd f_gives (Int32.toNatClampNeg s1) s2) f_sums)) else ((m_X8_daysBy_132 (m_X8_daysBy_5 f_may f_voyage fuel_5) (m_X8_daysBy_47 (m_X8_daysBy_5 f_may f_voyage fuel_5) f_may f_voyage fuel_47) f_may f_voyage v1 v2 v3 v4 v6 v7 v8 f_best (upd f_gives (Int32.toNatClampNeg s1) s2) f_sums))) else (ogi v7 6 (ogb (m_X8_has (v1 &&& (f_may (Int32.toNatClampNeg v7))) v8) (fun q_114 => if q_114 = 0 then ((m_X8_daysBy_132 (m_X8_daysBy_5 f_may f_voyage fuel_5) (m_X8_daysBy_47 (m_X8_daysBy_5 f_may f_voyage fuel_5) f_may f_voyage fuel_47) f_may f_voyage v1 v2 v3 v4 v6 v7 v8 f_best (upd f_gives (Int32.toNatClampNeg s1) s2) f_sums)) else ((m_X8_daysBy_128 (m_X8_daysBy_5 f_may f_voyage fuel_5) (m_X8_daysBy_47 (m_X8_daysBy_5 f_may f_voyage fuel_5) f_may f_voyage fuel_47) f_may f_voyage v1 v2 v3 v4 v6 v7 v8 f_best (upd f_gives (Int32.toNatClampNeg s1) s2) f_sums)))))))) : Option (Int32 × ((Nat → Int32) × (Nat → Int32) × (Nat → Int32)))) = some res := h
            obtain ⟨i_87, h⟩ := og_i h
            refine ww_iast B 2 rfl i_87 dX8_daysBy_87 (ws' := [(a_t, .inr (8, [.ref a_may, .ref a_voyage, .ref b_lucky, .ref b_worths, .ref b_ranks, .int x_t_signs, .ref b_pad, .int x_t_day, .int x_t_reason, .ref b_bears, .ref b_due, .ref b_borneBy, .ref b_gone, .ref b_sunk, .ref b_times, .int x_t_asked, .ref b_whoBore, .ref a_gives, .ref a_best, .ref b_holds, .ref b_refused, .ref a_sums, .ref b_image, .ref b_isKept])), (a_best, .inl (cI, 6, .inl f_best)), (a_gives, .inl (cI, 6, .inl (upd f_gives (Int32.toNatClampNeg s1) s2))), (a_may, .inl (cI, 6, .inl f_may)), (a_sums, .inl (cI, 5, .inl f_sums)), (a_voyage, .inl (cI, 6, .inl f_voyage))]) rfl ?_
            refine ww_iload B dX8_daysBy_88 5 rfl ?_
            refine ww_if_eq B 132 dX8_daysBy_90 (by decide) (fun c_90 => ?_) (fun c_90 => ?_)
            · replace h := og_t c_90 h
              refine ww_lsel (lv' := [(0, .ref a_t), (1, .int v1), (2, .int v2), (3, .int v3), (4, .int v4), (6, .int v6), (7, .int v7), (8, .int v8)]) [0, 1, 2, 3, 4, 6, 7, 8] rfl ?_
              exact cut_132 _ _ _ _ _ _ _ _ _ _ h
            · replace h := og_f c_90 h
              refine ww_aload_n B dX8_daysBy_93 0 rfl ?_
              refine ww_get (ci := 8) (T := TX8) (C := RX8) (N := 24) B iX8 0 rfl rfl 1 (by decide) (by decide +kernel) rfl rfl dX8_daysBy_94 ?_
              refine ww_iload B dX8_daysBy_97 7 rfl ?_
              obtain ⟨i_99, h⟩ := og_i h
              refine ww_iald B 5 rfl i_99 dX8_daysBy_99 ?_
              refine ww_if_le B 123 dX8_daysBy_100 (by decide) (fun c_100 => ?_) (fun c_100 => ?_)
              · replace h := og_t c_100 h
                refine ww_iload B dX8_daysBy_123 8 rfl ?_
                refine ww_if_ne B 132 dX8_daysBy_125 (by decide) (fun c_125 => ?_) (fun c_125 => ?_)
                · replace h := og_f c_125 h
                  refine ww_lsel (lv' := [(0, .ref a_t), (1, .int v1), (2, .int v2), (3, .int v3), (4, .int v4), (6, .int v6), (7, .int v7), (8, .int v8)]) [0, 1, 2, 3, 4, 6, 7, 8] rfl ?_
                  exact cut_132 _ _ _ _ _ _ _ _ _ _ h
                · replace h := og_t c_125 h
                  refine ww_lsel (lv' := [(0, .ref a_t), (1, .int v1), (2, .int v2), (3, .int v3), (4, .int v4), (6, .int v6), (7, .int v7), (8, .int v8)]) [0, 1, 2, 3, 4, 6, 7, 8] rfl ?_
                  exact cut_128 _ _ _ _ _ _ _ _ _ _ h
              · replace h := og_f c_100 h
                refine ww_iload_n B dX8_daysBy_103 1 rfl ?_
                refine ww_aload_n B dX8_daysBy_104 0 rfl ?_
                refine ww_get (ci := 8) (T := TX8) (C := RX8) (N := 24) B iX8 0 rfl rfl 0 (by decide) (by decide +kernel) rfl rfl dX8_daysBy_105 ?_
                refine ww_iload B dX8_daysBy_108 7 rfl ?_
                obtain ⟨i_110, h⟩ := og_i h
                refine ww_iald B 3 rfl i_110 dX8_daysBy_110 ?_
                refine ww_iand B dX8_daysBy_111 ?_
                refine ww_iload B dX8_daysBy_112 8 rfl ?_
                obtain ⟨q_114, hq_114, h⟩ := og_b h
                refine ww_ci0 B (k' := 0) (n' := 0) rfl rfl [] [0, 1, 2, 3, 4, 5] (wr := [(a_t, .inr (8, [.ref a_may, .ref a_voyage, .ref b_lucky, .ref b_worths, .ref b_ranks, .int x_t_signs, .ref b_pad, .int x_t_day, .int x_t_reason, .ref b_bears, .ref b_due, .ref b_borneBy, .ref b_gone, .ref b_sunk, .ref b_times, .int x_t_asked, .ref b_whoBore, .ref a_gives, .ref a_best, .ref b_holds, .ref b_refused, .ref a_sums, .ref b_image, .ref b_isKept])), (a_best, .inl (cI, 6, .inl f_best)), (a_gives, .inl (cI, 6, .inl (upd f_gives (Int32.toNatClampNeg s1) s2))), (a_may, .inl (cI, 6, .inl f_may)), (a_sums, .inl (cI, 5, .inl f_sums)), (a_voyage, .inl (cI, 6, .inl f_voyage))]) (st := []) rfl rfl (by decide) (rr_S B (c_X8_has l D cI cZ (v1 &&& (f_may (Int32.toNatClampNeg v7))) v8 hq_114) gX8_daysBy_X8_has rfl rfl rfl (N := 2) rfl (by decide +kernel) ⟨Nat.le_of_ble_eq_true rfl, Nat.le_of_ble_eq_true rfl⟩ rfl dX8_daysBy_114 (Nat.le_of_ble_eq_true rfl) ⟨Nat.le_of_ble_eq_true rfl, Nat.le_of_ble_eq_true rfl⟩) (ws' := [(a_t, .inr (8, [.ref a_may, .ref a_voyage, .ref b_lucky, .ref b_worths, .ref b_ranks, .int x_t_signs, .ref b_pad, .int x_t_day, .int x_t_reason, .ref b_bears, .ref b_due, .ref b_borneBy, .ref b_gone, .ref b_sunk, .ref b_times, .int x_t_asked, .ref b_whoBore, .ref a_gives, .ref a_best, .ref b_holds, .ref b_refused, .ref a_sums, .ref b_image, .ref b_isKept])), (a_best, .inl (cI, 6, .inl f_best)), (a_gives, .inl (cI, 6, .inl (upd f_gives (Int32.toNatClampNeg s1) s2))), (a_may, .inl (cI, 6, .inl f_may)), (a_sums, .inl (cI, 5, .inl f_sums)), (a_voyage, .inl (cI, 6, .inl f_voyage))]) rfl ?_
                refine ww_if_eq B 132 dX8_daysBy_117 (by decide) (fun c_117 => ?_) (fun c_117 => ?_)
                · replace h := og_t c_117 h
                  refine ww_lsel (lv' := [(0, .ref a_t), (1, .int v1), (2, .int v2), (3, .int v3), (4, .int v4), (6, .int v6), (7, .int v7), (8, .int v8)]) [0, 1, 2, 3, 4, 6, 7, 8] rfl ?_
                  exact cut_132 _ _ _ _ _ _ _ _ _ _ h
                · replace h := og_f c_117 h
                  refine ww_goto B 128 dX8_daysBy_120 (by decide) ?_
                  refine ww_lsel (lv' := [(0, .ref a_t), (1, .int v1), (2, .int v2), (3, .int v3), (4, .int v4), (6, .int v6), (7, .int v7), (8, .int v8)]) [0, 1, 2, 3, 4, 6, 7, 8] rfl ?_
                  exact cut_128 _ _ _ _ _ _ _ _ _ _ h
          intro v1 v2 v3 v4 v5 v6 v7 f_best f_gives f_sums h
          replace h : (if v7 < 0 then (if v5 = 0 then ((m_X8_daysBy_202 (m_X8_daysBy_5 f_may f_voyage fuel_5) f_may f_voyage v1 v2 v3 f_best f_gives f_sums)) else (if v2 ≤ v6 then ((m_X8_daysBy_202 (m_X8_daysBy_5 f_may f_voyage fuel_5) f_may f_voyage v1 v2 v3 f_best f_gives f_sums)) else (ogb (m_X8_keepBest f_gives f_best) (fun q_199 => (m_X8_daysBy_202 (m_X8_daysBy_5 f_may f_voyage fuel_5) f_may f_voyage v1 v6 v3 q_199 f_gives f_sums))))) else (ogl (v4 - v4 / 5 * 5) (fun (v8_56 : Int32) => ogl (v4 / 5) (fun (v4_62 : Int32) => ogi v7 6 (if (f_voyage (Int32.toNatClampNeg v7)) ≤ 0 then ((m_X8_daysBy_87 (m_X8_daysBy_5 f_may f_voyage fuel_5) (m_X8_daysBy_47 (m_X8_daysBy_5 f_may f_voyage fuel_5) f_may f_voyage fuel_47) f_may f_voyage v1 v2 v3 v4_62 v5 v6 v7 v8_56 v7 (-6) f_best f_gives f_sums)) else ((m_X8_daysBy_87 (m_X8_daysBy_5 f_may f_voyage fuel_5) (m_X8_daysBy_47 (m_X8_daysBy_5 f_may f_voyage fuel_5) f_may f_voyage fuel_47) f_may f_voyage v1 v2 v3 v4_62 v5 v6 v7 v8_56 v7 v8_56 f_best f_gives f_sums)))))) : Option (Int32 × ((Nat → Int32) × (Nat → Int32) × (Nat → Int32)))) = some res := h
          refine ww_iload B dX8_daysBy_47 7 rfl ?_
          refine ww_if_lt B 184 dX8_daysBy_49 (by decide) (fun c_49 => ?_) (fun c_49 => ?_)
          · replace h := og_t c_49 h
            refine ww_iload B dX8_daysBy_184 5 rfl ?_
            refine ww_if_eq B 202 dX8_daysBy_186 (by decide) (fun c_186 => ?_) (fun c_186 => ?_)
            · replace h := og_t c_186 h
              refine ww_lsel (lv' := [(0, .ref a_t), (1, .int v1), (2, .int v2), (3, .int v3)]) [0, 1, 2, 3] rfl ?_
              exact cut_202 _ _ _ _ _ _ h
            · replace h := og_f c_186 h
              refine ww_iload B dX8_daysBy_189 6 rfl ?_
              refine ww_iload_n B dX8_daysBy_191 2 rfl ?_
              refine ww_icmp_ge B 202 dX8_daysBy_192 (by decide) (fun c_192 => ?_) (fun c_192 => ?_)
              · replace h := og_t c_192 h
                refine ww_lsel (lv' := [(0, .ref a_t), (1, .int v1), (2, .int v2), (3, .int v3)]) [0, 1, 2, 3] rfl ?_
                exact cut_202 _ _ _ _ _ _ h
              · replace h := og_f c_192 h
                refine ww_iload B dX8_daysBy_195 6 rfl ?_
                refine ww_istore_n B dX8_daysBy_197 (lv' := [(2, .int v6), (0, .ref a_t), (1, .int v1), (3, .int v3), (4, .int v4), (5, .int v5), (6, .int v6), (7, .int v7)]) (by decide) rfl ?_
                refine ww_aload_n B dX8_daysBy_198 1 rfl ?_
                obtain ⟨q_199, hq_199, h⟩ := og_b h
                refine ww_cvM B (k' := 0) (n' := 0) rfl rfl [0, 1, 2] [3, 4, 5] (wr := [(a_may, .inl (cI, 6, .inl f_may)), (a_sums, .inl (cI, 5, .inl f_sums)), (a_voyage, .inl (cI, 6, .inl f_voyage))]) (st := []) rfl rfl (by decide) (rr_V B (c_X8_keepBest l D cI cZ a_t a_best a_gives a_may a_voyage b_lucky b_worths b_ranks b_pad b_bears b_due b_borneBy b_gone b_sunk b_times b_whoBore b_holds b_refused a_sums b_image b_isKept f_best f_gives x_t_signs x_t_day x_t_reason x_t_asked hq_199) gX8_daysBy_X8_keepBest rfl rfl rfl (N := 0) rfl (by decide +kernel) ⟨Nat.le_of_ble_eq_true rfl, Nat.le_of_ble_eq_true rfl⟩ rfl dX8_daysBy_199 0 rfl rfl (Nat.le_of_ble_eq_true rfl) ⟨Nat.le_of_ble_eq_true rfl, Nat.le_of_ble_eq_true rfl⟩) (ws' := [(a_may, .inl (cI, 6, .inl f_may)), (a_sums, .inl (cI, 5, .inl f_sums)), (a_voyage, .inl (cI, 6, .inl f_voyage)), (a_t, .inr (8, [.ref a_may, .ref a_voyage, .ref b_lucky, .ref b_worths, .ref b_ranks, .int x_t_signs, .ref b_pad, .int x_t_day, .int x_t_reason, .ref b_bears, .ref b_due, .ref b_borneBy, .ref b_gone, .ref b_sunk, .ref b_times, .int x_t_asked, .ref b_whoBore, .ref a_gives, .ref a_best, .ref b_holds, .ref b_refused, .ref a_sums, .ref b_image, .ref b_isKept])), (a_best, .inl (cI, 6, .inl q_199)), (a_gives, .inl (cI, 6, .inl f_gives))]) rfl ?_
                refine ww_sub (ws' := [(a_t, .inr (8, [.ref a_may, .ref a_voyage, .ref b_lucky, .ref b_worths, .ref b_ranks, .int x_t_signs, .ref b_pad, .int x_t_day, .int x_t_reason, .ref b_bears, .ref b_due, .ref b_borneBy, .ref b_gone, .ref b_sunk, .ref b_times, .int x_t_asked, .ref b_whoBore, .ref a_gives, .ref a_best, .ref b_holds, .ref b_refused, .ref a_sums, .ref b_image, .ref b_isKept])), (a_best, .inl (cI, 6, .inl q_199)), (a_gives, .inl (cI, 6, .inl f_gives)), (a_may, .inl (cI, 6, .inl f_may)), (a_sums, .inl (cI, 5, .inl f_sums)), (a_voyage, .inl (cI, 6, .inl f_voyage))]) [3, 4, 5, 0, 1, 2] rfl (by decide) ?_
                refine ww_lsel (lv' := [(0, .ref a_t), (1, .int v1), (2, .int v6), (3, .int v3)]) [1, 2, 0, 3] rfl ?_
                exact cut_202 _ _ _ _ _ _ h
          · replace h := og_f c_49 h
            refine ww_iload B dX8_daysBy_52 4 rfl ?_
            refine ww_iconst B dX8_daysBy_54 (v := 5) (by decide) ?_
            refine ww_irem B dX8_daysBy_55 (by decide) ?_
            refine ww_topi (fun v8_56 ev8_56 => ?_)
            replace h := og_l ev8_56 h
            refine ww_istore B dX8_daysBy_56 (lv' := [(8, .int v8_56), (0, .ref a_t), (1, .int v1), (2, .int v2), (3, .int v3), (4, .int v4), (5, .int v5), (6, .int v6), (7, .int v7)]) (by decide) rfl ?_
            refine ww_iload B dX8_daysBy_58 5 rfl ?_
            refine ww_iconst B dX8_daysBy_60 (v := 5) (by decide) ?_
            refine ww_idiv B dX8_daysBy_61 (by decide) ?_
            refine ww_topi (fun v4_62 ev4_62 => ?_)
            replace h := og_l ev4_62 h
            refine ww_istore B dX8_daysBy_62 (lv' := [(4, .int v4_62), (8, .int v8_56), (0, .ref a_t), (1, .int v1), (2, .int v2), (3, .int v3), (5, .int v5), (6, .int v6), (7, .int v7)]) (by decide) rfl ?_
            refine ww_aload_n B dX8_daysBy_64 2 rfl ?_
            refine ww_get (ci := 8) (T := TX8) (C := RX8) (N := 24) B iX8 0 rfl rfl 17 (by decide) (by decide +kernel) rfl rfl dX8_daysBy_65 ?_
            refine ww_iload B dX8_daysBy_68 8 rfl ?_
            refine ww_aload_n B dX8_daysBy_70 2 rfl ?_
            refine ww_get (ci := 8) (T := TX8) (C := RX8) (N := 24) B iX8 0 rfl rfl 1 (by decide) (by decide +kernel) rfl rfl dX8_daysBy_71 ?_
            refine ww_iload B dX8_daysBy_74 8 rfl ?_
            obtain ⟨i_76, h⟩ := og_i h
            refine ww_iald B 5 rfl i_76 dX8_daysBy_76 ?_
            refine ww_if_le B 85 dX8_daysBy_77 (by decide) (fun c_77 => ?_) (fun c_77 => ?_)
            · replace h := og_t c_77 h
              refine ww_bipush B dX8_daysBy_85 (v := (-6)) (by decide) ?_
              refine ww_lsel (lv' := [(0, .ref a_t), (1, .int v1), (2, .int v2), (3, .int v3), (4, .int v4_62), (5, .int v5), (6, .int v6), (7, .int v7), (8, .int v8_56)]) [2, 3, 4, 5, 0, 6, 7, 8, 1] rfl ?_
              exact cut_87 _ _ _ _ _ _ _ _ _ _ _ _ _ h
            · replace h := og_f c_77 h
              refine ww_iload B dX8_daysBy_80 1 rfl ?_
              refine ww_goto B 87 dX8_daysBy_82 (by decide) ?_
              refine ww_lsel (lv' := [(0, .ref a_t), (1, .int v1), (2, .int v2), (3, .int v3), (4, .int v4_62), (5, .int v5), (6, .int v6), (7, .int v7), (8, .int v8_56)]) [2, 3, 4, 5, 0, 6, 7, 8, 1] rfl ?_
              exact cut_87 _ _ _ _ _ _ _ _ _ _ _ _ _ h
      have cut_24 : ∀ (fuel : Nat) (v1 : Int32) (v2 : Int32) (v3 : Int32) (v4 : Int32) (v5 : Int32) (v6 : Int32) (v7 : Int32) (f_best : (Nat → Int32)) (f_gives : (Nat → Int32)) (f_sums : (Nat → Int32)), m_X8_daysBy_24 (m_X8_daysBy_5 f_may f_voyage fuel_5) f_may f_voyage fuel v1 v2 v3 v4 v5 v6 v7 f_best f_gives f_sums = some res → WW p l e (headSpec wsX8_daysBy ({ frames := 1, cells := 0, slots := 0, locals := 21 } : Room)).room s m args below meth c D A 9 0 0 Q [(a_t, .inr (8, [.ref a_may, .ref a_voyage, .ref b_lucky, .ref b_worths, .ref b_ranks, .int x_t_signs, .ref b_pad, .int x_t_day, .int x_t_reason, .ref b_bears, .ref b_due, .ref b_borneBy, .ref b_gone, .ref b_sunk, .ref b_times, .int x_t_asked, .ref b_whoBore, .ref a_gives, .ref a_best, .ref b_holds, .ref b_refused, .ref a_sums, .ref b_image, .ref b_isKept])), (a_best, .inl (cI, 6, .inl f_best)), (a_gives, .inl (cI, 6, .inl f_gives)), (a_may, .inl (cI, 6, .inl f_may)), (a_sums, .inl (cI, 5, .inl f_sums)), (a_voyage, .inl (cI, 6, .inl f_voyage))] [(0, .ref a_t), (1, .int v1), (2, .int v2), (3, .int v3), (4, .int v4), (5, .int v5), (6, .int v6), (7, .int v7)] [] 24 := by
        intro fuel_24
        induction fuel_24 with
        | zero => intro v1 v2 v3 v4 v5 v6 v7 f_best f_gives f_sums h; exact og_0 h
        | succ fuel_24 ih_24 =>
          intro v1 v2 v3 v4 v5 v6 v7 f_best f_gives f_sums h
          replace h : (if 5 ≤ v7 then ((m_X8_daysBy_47 (m_X8_daysBy_5 f_may f_voyage fuel_5) f_may f_voyage 1000000 v1 v2 v3 v4 v5 v6 5 f_best f_gives f_sums)) else (ogi v7 5 (ogl (v7 + 1) (fun (v7_38 : Int32) => ((m_X8_daysBy_24 (m_X8_daysBy_5 f_may f_voyage fuel_5) f_may f_voyage fuel_24) v1 v2 v3 v4 v5 v6 v7_38 f_best f_gives (upd f_sums (Int32.toNatClampNeg v7) 0))))) : Option (Int32 × ((Nat → Int32) × (Nat → Int32) × (Nat → Int32)))) = some res := h
          refine ww_iload B dX8_daysBy_24 7 rfl ?_
          refine ww_iconst B dX8_daysBy_26 (v := 5) (by decide) ?_
          refine ww_icmp_ge B 44 dX8_daysBy_27 (by decide) (fun c_27 => ?_) (fun c_27 => ?_)
          · replace h := og_t c_27 h
            refine ww_iconst B dX8_daysBy_44 (v := 5) (by decide) ?_
            refine ww_istore B dX8_daysBy_45 (lv' := [(7, .int 5), (0, .ref a_t), (1, .int v1), (2, .int v2), (3, .int v3), (4, .int v4), (5, .int v5), (6, .int v6)]) (by decide) rfl ?_
            refine ww_lsel (lv' := [(0, .ref a_t), (1, .int v1), (2, .int v2), (3, .int v3), (4, .int v4), (5, .int v5), (6, .int v6), (7, .int 5)]) [1, 2, 3, 4, 5, 6, 7, 0] rfl ?_
            exact cut_47 _ _ _ _ _ _ _ _ _ _ _ h
          · replace h := og_f c_27 h
            refine ww_aload_n B dX8_daysBy_30 0 rfl ?_
            refine ww_get (ci := 8) (T := TX8) (C := RX8) (N := 24) B iX8 0 rfl rfl 21 (by decide) (by decide +kernel) rfl rfl dX8_daysBy_31 ?_
            refine ww_iload B dX8_daysBy_34 7 rfl ?_
            refine ww_iconst B dX8_daysBy_36 (v := 0) (by decide) ?_
            obtain ⟨i_37, h⟩ := og_i h
            refine ww_iast B 4 rfl i_37 dX8_daysBy_37 (ws' := [(a_t, .inr (8, [.ref a_may, .ref a_voyage, .ref b_lucky, .ref b_worths, .ref b_ranks, .int x_t_signs, .ref b_pad, .int x_t_day, .int x_t_reason, .ref b_bears, .ref b_due, .ref b_borneBy, .ref b_gone, .ref b_sunk, .ref b_times, .int x_t_asked, .ref b_whoBore, .ref a_gives, .ref a_best, .ref b_holds, .ref b_refused, .ref a_sums, .ref b_image, .ref b_isKept])), (a_best, .inl (cI, 6, .inl f_best)), (a_gives, .inl (cI, 6, .inl f_gives)), (a_may, .inl (cI, 6, .inl f_may)), (a_sums, .inl (cI, 5, .inl (upd f_sums (Int32.toNatClampNeg v7) 0))), (a_voyage, .inl (cI, 6, .inl f_voyage))]) rfl ?_
            obtain ⟨v7_38, ev7_38⟩ : ∃ y : Int32, y = (v7 + 1) := ⟨_, rfl⟩
            refine ww_iinc B dX8_daysBy_38 7 rfl (v := v7_38) (by rw [ev7_38]; rfl) (by decide) (lv' := [(7, .int v7_38), (0, .ref a_t), (1, .int v1), (2, .int v2), (3, .int v3), (4, .int v4), (5, .int v5), (6, .int v6)]) rfl ?_
            replace h := og_l ev7_38 h
            refine ww_goto B 24 dX8_daysBy_41 (by decide) ?_
            refine ww_lsel (lv' := [(0, .ref a_t), (1, .int v1), (2, .int v2), (3, .int v3), (4, .int v4), (5, .int v5), (6, .int v6), (7, .int v7_38)]) [1, 2, 3, 4, 5, 6, 7, 0] rfl ?_
            exact ih_24 _ _ _ _ _ _ _ _ _ _ h
      intro v1 v2 v3 f_best f_gives f_sums h
      replace h : (if 15625 ≤ v3 then (some (v2, (f_best, f_gives, f_sums))) else ((m_X8_daysBy_24 (m_X8_daysBy_5 f_may f_voyage fuel_5) f_may f_voyage 1000000 v1 v2 v3 v3 1 0 0 f_best f_gives f_sums)) : Option (Int32 × ((Nat → Int32) × (Nat → Int32) × (Nat → Int32)))) = some res := h
      refine ww_iload_n B dX8_daysBy_5 3 rfl ?_
      refine ww_sipush B dX8_daysBy_6 (v := 15625) (by decide) ?_
      refine ww_icmp_ge B 208 dX8_daysBy_9 (by decide) (fun c_9 => ?_) (fun c_9 => ?_)
      · replace h := og_t c_9 h
        refine ww_iload_n B dX8_daysBy_208 2 rfl ?_
        exact ww_iret B hA hQ hr dX8_daysBy_209 (f_best, f_gives, f_sums) [0, 1, 2, 3, 4, 5] rfl (by decide) (og_p h)
      · replace h := og_f c_9 h
        refine ww_iload_n B dX8_daysBy_12 3 rfl ?_
        refine ww_istore B dX8_daysBy_13 (lv' := [(4, .int v3), (0, .ref a_t), (1, .int v1), (2, .int v2), (3, .int v3)]) (by decide) rfl ?_
        refine ww_iconst B dX8_daysBy_15 (v := 1) (by decide) ?_
        refine ww_istore B dX8_daysBy_16 (lv' := [(5, .int 1), (4, .int v3), (0, .ref a_t), (1, .int v1), (2, .int v2), (3, .int v3)]) (by decide) rfl ?_
        refine ww_iconst B dX8_daysBy_18 (v := 0) (by decide) ?_
        refine ww_istore B dX8_daysBy_19 (lv' := [(6, .int 0), (5, .int 1), (4, .int v3), (0, .ref a_t), (1, .int v1), (2, .int v2), (3, .int v3)]) (by decide) rfl ?_
        refine ww_iconst B dX8_daysBy_21 (v := 0) (by decide) ?_
        refine ww_istore B dX8_daysBy_22 (lv' := [(7, .int 0), (6, .int 0), (5, .int 1), (4, .int v3), (0, .ref a_t), (1, .int v1), (2, .int v2), (3, .int v3)]) (by decide) rfl ?_
        refine ww_lsel (lv' := [(0, .ref a_t), (1, .int v1), (2, .int v2), (3, .int v3), (4, .int v3), (5, .int 1), (6, .int 0), (7, .int 0)]) [4, 5, 6, 7, 3, 2, 1, 0] rfl ?_
        exact cut_24 _ _ _ _ _ _ _ _ _ _ _ h
  refine ww_ldc B (v := 1000000) (by decide +kernel) dX8_daysBy_0 ?_
  refine ww_istore_n B dX8_daysBy_2 (lv' := [(2, .int 1000000), (0, .ref a_t), (1, .int v1)]) (by decide) rfl ?_
  refine ww_iconst B dX8_daysBy_3 (v := 0) (by decide) ?_
  refine ww_istore_n B dX8_daysBy_4 (lv' := [(3, .int 0), (2, .int 1000000), (0, .ref a_t), (1, .int v1)]) (by decide) rfl ?_
  refine ww_lsel (lv' := [(0, .ref a_t), (1, .int v1), (2, .int 1000000), (3, .int 0)]) [2, 3, 1, 0] rfl ?_
  exact cut_5 _ _ _ _ _ _ _ h
noncomputable def m_X8_fault (f_pad : (Nat → Int32)) (x_t_signs : Int32) : Option Int32 := ogb (m_X8_faultOf f_pad x_t_signs) (fun q_1 => some q_1)
set_option maxHeartbeats 4000000 in
set_option maxRecDepth 100000 in
theorem c_X8_fault (l : Launch) (D : va_G) (cI cZ : ClassId) (a_t a_pad b_may b_voyage b_lucky b_worths b_ranks b_bears b_due b_borneBy b_gone b_sunk b_times b_whoBore b_gives b_best b_holds b_refused b_sums b_image b_isKept : Nat) (f_pad : (Nat → Int32)) (x_t_signs : Int32) (x_t_day : Int32) (x_t_reason : Int32) (x_t_asked : Int32) {res : Int32} (h : m_X8_fault f_pad x_t_signs = some res) : CT l yX8_fault wsX8_fault ({ frames := 2, cells := 0, slots := 0, locals := 47 } : Room) D cI cZ [.ref a_t] [(a_t, .inr (8, [.ref b_may, .ref b_voyage, .ref b_lucky, .ref b_worths, .ref b_ranks, .int x_t_signs, .ref a_pad, .int x_t_day, .int x_t_reason, .ref b_bears, .ref b_due, .ref b_borneBy, .ref b_gone, .ref b_sunk, .ref b_times, .int x_t_asked, .ref b_whoBore, .ref b_gives, .ref b_best, .ref b_holds, .ref b_refused, .ref b_sums, .ref b_image, .ref b_isKept])), (a_pad, .inl (cI, 48, .inl f_pad))] (QI D [(a_t, .inr (8, [.ref b_may, .ref b_voyage, .ref b_lucky, .ref b_worths, .ref b_ranks, .int x_t_signs, .ref a_pad, .int x_t_day, .int x_t_reason, .ref b_bears, .ref b_due, .ref b_borneBy, .ref b_gone, .ref b_sunk, .ref b_times, .int x_t_asked, .ref b_whoBore, .ref b_gives, .ref b_best, .ref b_holds, .ref b_refused, .ref b_sums, .ref b_image, .ref b_isKept])), (a_pad, .inl (cI, 48, .inl f_pad))] (fun (r : Int32) (_ : Unit) => r = res) (fun (u : Unit) => [(a_t, .inr (8, [.ref b_may, .ref b_voyage, .ref b_lucky, .ref b_worths, .ref b_ranks, .int x_t_signs, .ref a_pad, .int x_t_day, .int x_t_reason, .ref b_bears, .ref b_due, .ref b_borneBy, .ref b_gone, .ref b_sunk, .ref b_times, .int x_t_asked, .ref b_whoBore, .ref b_gives, .ref b_best, .ref b_holds, .ref b_refused, .ref b_sums, .ref b_image, .ref b_isKept])), (a_pad, .inl (cI, 48, .inl f_pad))])) 0 0 := by
  have h : (ogb (m_X8_faultOf f_pad x_t_signs) (fun q_1 => some q_1) : Option Int32) = some res := h
  refine ct_entry (cc := cX8_fault) (nl := 1) (ret := (some .int)) (own := RX8) (lv0 := [(0, .ref a_t)]) (by decide) rfl rfl (Nat.le_of_ble_eq_true rfl) rfl ?_
  intro p e s m args below meth c A Q hA hQ hr hnm B
  refine ww_aload_n B dX8_fault_0 0 rfl ?_
  obtain ⟨q_1, hq_1, h⟩ := og_b h
  refine ww_ci0 B (k' := 0) (n' := 0) rfl rfl [0, 1] [] (wr := []) (st := []) rfl rfl (by decide) (rr_V B (c_X8_faultOf l D cI cZ a_t a_pad b_may b_voyage b_lucky b_worths b_ranks b_bears b_due b_borneBy b_gone b_sunk b_times b_whoBore b_gives b_best b_holds b_refused b_sums b_image b_isKept f_pad x_t_signs x_t_day x_t_reason x_t_asked hq_1) gX8_fault_X8_faultOf rfl rfl rfl (N := 0) rfl (by decide +kernel) ⟨Nat.le_of_ble_eq_true rfl, Nat.le_of_ble_eq_true rfl⟩ rfl dX8_fault_1 0 rfl rfl (Nat.le_of_ble_eq_true rfl) ⟨Nat.le_of_ble_eq_true rfl, Nat.le_of_ble_eq_true rfl⟩) (ws' := [(a_t, .inr (8, [.ref b_may, .ref b_voyage, .ref b_lucky, .ref b_worths, .ref b_ranks, .int x_t_signs, .ref a_pad, .int x_t_day, .int x_t_reason, .ref b_bears, .ref b_due, .ref b_borneBy, .ref b_gone, .ref b_sunk, .ref b_times, .int x_t_asked, .ref b_whoBore, .ref b_gives, .ref b_best, .ref b_holds, .ref b_refused, .ref b_sums, .ref b_image, .ref b_isKept])), (a_pad, .inl (cI, 48, .inl f_pad))]) rfl ?_
  exact ww_iret B hA hQ hr dX8_fault_4 () [0, 1] rfl (by decide) (og_s h).symm
noncomputable def m_X8_filled_95b (k95 : Int32 → Int32 → Int32 → (Nat → Int32) → (Nat → Int32) → (Nat → Int32) → (Nat → Int32) → (Nat → Int32) → (Nat → Int32) → (Nat → Int32) → Int32 → Int32 → Option (Int32 × ((Nat → Int32) × (Nat → Int32) × (Nat → Int32) × (Nat → Int32) × (Nat → Int32) × (Nat → Int32) × (Nat → Int32) × Int32 × Int32))) (f_may : (Nat → Int32)) (f_pad : (Nat → Int32)) (x_t_signs : Int32) (x_t_asked : Int32) (v1 : Int32) (v4 : Int32) (v5 : Int32) (f_bears : (Nat → Int32)) (f_borneBy : (Nat → Int32)) (f_due : (Nat → Int32)) (f_gone : (Nat → Int32)) (f_sunk : (Nat → Int32)) (f_times : (Nat → Int32)) (f_whoBore : (Nat → Int32)) (x_t_day : Int32) (x_t_reason : Int32) : Option (Int32 × ((Nat → Int32) × (Nat → Int32) × (Nat → Int32) × (Nat → Int32) × (Nat → Int32) × (Nat → Int32) × (Nat → Int32) × Int32 × Int32)) := if v5 ≤ v1 then (some ((v4 - v4 / 6 * 6), (f_bears, f_borneBy, f_due, f_gone, f_sunk, f_times, f_whoBore, x_t_day, x_t_reason))) else (ogl (v4 / 6) (fun (v4_106 : Int32) => ogl (v5 + (-1)) (fun (v5_108 : Int32) => (k95 v1 v4_106 v5_108 f_bears f_borneBy f_due f_gone f_sunk f_times f_whoBore x_t_day x_t_reason))))
noncomputable def m_X8_filled_95 (f_may : (Nat → Int32)) (f_pad : (Nat → Int32)) (x_t_signs : Int32) (x_t_asked : Int32) (fuel : Nat) : Int32 → Int32 → Int32 → (Nat → Int32) → (Nat → Int32) → (Nat → Int32) → (Nat → Int32) → (Nat → Int32) → (Nat → Int32) → (Nat → Int32) → Int32 → Int32 → Option (Int32 × ((Nat → Int32) × (Nat → Int32) × (Nat → Int32) × (Nat → Int32) × (Nat → Int32) × (Nat → Int32) × (Nat → Int32) × Int32 × Int32)) := Nat.rec (fun _ _ _ _ _ _ _ _ _ _ _ _ => none) (fun _ k95 => m_X8_filled_95b k95 f_may f_pad x_t_signs x_t_asked) fuel
noncomputable def m_X8_filled_50 (k18 : Int32 → Int32 → Int32 → Int32 → (Nat → Int32) → (Nat → Int32) → (Nat → Int32) → (Nat → Int32) → (Nat → Int32) → (Nat → Int32) → (Nat → Int32) → Int32 → Int32 → Option (Int32 × ((Nat → Int32) × (Nat → Int32) × (Nat → Int32) × (Nat → Int32) × (Nat → Int32) × (Nat → Int32) × (Nat → Int32) × Int32 × Int32))) (f_may : (Nat → Int32)) (f_pad : (Nat → Int32)) (x_t_signs : Int32) (x_t_asked : Int32) (v1 : Int32) (v2 : Int32) (v3 : Int32) (v4 : Int32) (f_bears : (Nat → Int32)) (f_borneBy : (Nat → Int32)) (f_due : (Nat → Int32)) (f_gone : (Nat → Int32)) (f_sunk : (Nat → Int32)) (f_times : (Nat → Int32)) (f_whoBore : (Nat → Int32)) (x_t_day : Int32) (x_t_reason : Int32) : Option (Int32 × ((Nat → Int32) × (Nat → Int32) × (Nat → Int32) × (Nat → Int32) × (Nat → Int32) × (Nat → Int32) × (Nat → Int32) × Int32 × Int32)) := ogl (v4 + 1) (fun (v4_50 : Int32) => (k18 v1 v2 v3 v4_50 f_bears f_borneBy f_due f_gone f_sunk f_times f_whoBore x_t_day x_t_reason))
noncomputable def m_X8_filled_46 (k18 : Int32 → Int32 → Int32 → Int32 → (Nat → Int32) → (Nat → Int32) → (Nat → Int32) → (Nat → Int32) → (Nat → Int32) → (Nat → Int32) → (Nat → Int32) → Int32 → Int32 → Option (Int32 × ((Nat → Int32) × (Nat → Int32) × (Nat → Int32) × (Nat → Int32) × (Nat → Int32) × (Nat → Int32) × (Nat → Int32) × Int32 × Int32))) (f_may : (Nat → Int32)) (f_pad : (Nat → Int32)) (x_t_signs : Int32) (x_t_asked : Int32) (v1 : Int32) (v2 : Int32) (v4 : Int32) (s0 : Int32) (f_bears : (Nat → Int32)) (f_borneBy : (Nat → Int32)) (f_due : (Nat → Int32)) (f_gone : (Nat → Int32)) (f_sunk : (Nat → Int32)) (f_times : (Nat → Int32)) (f_whoBore : (Nat → Int32)) (x_t_day : Int32) (x_t_reason : Int32) : Option (Int32 × ((Nat → Int32) × (Nat → Int32) × (Nat → Int32) × (Nat → Int32) × (Nat → Int32) × (Nat → Int32) × (Nat → Int32) × Int32 × Int32)) := ogl (v2 + 1) (fun (v2_47 : Int32) => (m_X8_filled_50 k18 f_may f_pad x_t_signs x_t_asked v1 v2_47 s0 v4 f_bears f_borneBy f_due f_gone f_sunk f_times f_whoBore x_t_day x_t_reason))
noncomputable def m_X8_filled_18b (k18 : Int32 → Int32 → Int32 → Int32 → (Nat → Int32) → (Nat → Int32) → (Nat → Int32) → (Nat → Int32) → (Nat → Int32) → (Nat → Int32) → (Nat → Int32) → Int32 → Int32 → Option (Int32 × ((Nat → Int32) × (Nat → Int32) × (Nat → Int32) × (Nat → Int32) × (Nat → Int32) × (Nat → Int32) × (Nat → Int32) × Int32 × Int32))) (f_may : (Nat → Int32)) (f_pad : (Nat → Int32)) (x_t_signs : Int32) (x_t_asked : Int32) (v1 : Int32) (v2 : Int32) (v3 : Int32) (v4 : Int32) (f_bears : (Nat → Int32)) (f_borneBy : (Nat → Int32)) (f_due : (Nat → Int32)) (f_gone : (Nat → Int32)) (f_sunk : (Nat → Int32)) (f_times : (Nat → Int32)) (f_whoBore : (Nat → Int32)) (x_t_day : Int32) (x_t_reason : Int32) : Option (Int32 × ((Nat → Int32) × (Nat → Int32) × (Nat → Int32) × (Nat → Int32) × (Nat → Int32) × (Nat → Int32) × (Nat → Int32) × Int32 × Int32)) := ogb (m_X8_codes f_pad x_t_signs) (fun q_21 => if q_21 ≤ v4 then (if v1 = (-1) then (some (v2, (f_bears, f_borneBy, f_due, f_gone, f_sunk, f_times, f_whoBore, x_t_day, x_t_reason))) else (if v3 < 0 then (some ((-6), (f_bears, f_borneBy, f_due, f_gone, f_sunk, f_times, f_whoBore, x_t_day, x_t_reason))) else (ogb (m_X8_opens f_pad x_t_signs) (fun q_70 => ogb (m_X8_in v1 0 (q_70 - 1)) (fun q_75 => if q_75 = 0 then (some ((-6), (f_bears, f_borneBy, f_due, f_gone, f_sunk, f_times, f_whoBore, x_t_day, x_t_reason))) else (ogb (m_X8_opens f_pad x_t_signs) (fun q_88 => ogl (q_88 - 1) (fun (v5_93 : Int32) => (m_X8_filled_95 f_may f_pad x_t_signs x_t_asked 1000000 v1 v3 v5_93 f_bears f_borneBy f_due f_gone f_sunk f_times f_whoBore x_t_day x_t_reason))))))))) else (ogb (m_X8_goLog f_may f_pad x_t_signs x_t_asked f_bears f_borneBy f_due f_gone f_sunk f_times f_whoBore x_t_day x_t_reason v4) (fun q_30 => if 0 ≤ q_30.1 then ((m_X8_filled_50 k18 f_may f_pad x_t_signs x_t_asked v1 v2 v3 v4 q_30.2.1 q_30.2.2.1 q_30.2.2.2.1 q_30.2.2.2.2.1 q_30.2.2.2.2.2.1 q_30.2.2.2.2.2.2.1 q_30.2.2.2.2.2.2.2.1 q_30.2.2.2.2.2.2.2.2.1 q_30.2.2.2.2.2.2.2.2.2)) else (if 0 ≤ v3 then ((m_X8_filled_46 k18 f_may f_pad x_t_signs x_t_asked v1 v2 v4 v3 q_30.2.1 q_30.2.2.1 q_30.2.2.2.1 q_30.2.2.2.2.1 q_30.2.2.2.2.2.1 q_30.2.2.2.2.2.2.1 q_30.2.2.2.2.2.2.2.1 q_30.2.2.2.2.2.2.2.2.1 q_30.2.2.2.2.2.2.2.2.2)) else ((m_X8_filled_46 k18 f_may f_pad x_t_signs x_t_asked v1 v2 v4 v4 q_30.2.1 q_30.2.2.1 q_30.2.2.2.1 q_30.2.2.2.2.1 q_30.2.2.2.2.2.1 q_30.2.2.2.2.2.2.1 q_30.2.2.2.2.2.2.2.1 q_30.2.2.2.2.2.2.2.2.1 q_30.2.2.2.2.2.2.2.2.2))))))
noncomputable def m_X8_filled_18 (f_may : (Nat → Int32)) (f_pad : (Nat → Int32)) (x_t_signs : Int32) (x_t_asked : Int32) (fuel : Nat) : Int32 → Int32 → Int32 → Int32 → (Nat → Int32) → (Nat → Int32) → (Nat → Int32) → (Nat → Int32) → (Nat → Int32) → (Nat → Int32) → (Nat → Int32) → Int32 → Int32 → Option (Int32 × ((Nat → Int32) × (Nat → Int32) × (Nat → Int32) × (Nat → Int32) × (Nat → Int32) × (Nat → Int32) × (Nat → Int32) × Int32 × Int32)) := Nat.rec (fun _ _ _ _ _ _ _ _ _ _ _ _ _ => none) (fun _ k18 => m_X8_filled_18b k18 f_may f_pad x_t_signs x_t_asked) fuel
noncomputable def m_X8_filled (f_may : (Nat → Int32)) (f_pad : (Nat → Int32)) (x_t_signs : Int32) (x_t_asked : Int32) (f_bears : (Nat → Int32)) (f_borneBy : (Nat → Int32)) (f_due : (Nat → Int32)) (f_gone : (Nat → Int32)) (f_sunk : (Nat → Int32)) (f_times : (Nat → Int32)) (f_whoBore : (Nat → Int32)) (x_t_day : Int32) (x_t_reason : Int32) (v1 : Int32) : Option (Int32 × ((Nat → Int32) × (Nat → Int32) × (Nat → Int32) × (Nat → Int32) × (Nat → Int32) × (Nat → Int32) × (Nat → Int32) × Int32 × Int32)) := ogb (m_X8_faultOf f_pad x_t_signs) (fun q_1 => if q_1 < 0 then ((m_X8_filled_18 f_may f_pad x_t_signs x_t_asked 1000000 v1 0 (-6) 0 f_bears f_borneBy f_due f_gone f_sunk f_times f_whoBore x_t_day x_t_reason)) else (some ((-5), (f_bears, f_borneBy, f_due, f_gone, f_sunk, f_times, f_whoBore, x_t_day, x_t_reason))))
set_option maxHeartbeats 4000000 in
set_option maxRecDepth 100000 in
theorem c_X8_filled (l : Launch) (D : va_G) (cI cZ : ClassId) (a_t a_bears a_borneBy a_due a_gone a_may a_pad a_sunk a_times a_whoBore b_voyage b_lucky b_worths b_ranks b_gives b_best b_holds b_refused b_sums b_image b_isKept : Nat) (f_bears : (Nat → Int32)) (f_borneBy : (Nat → Int32)) (f_due : (Nat → Int32)) (f_gone : (Nat → Int32)) (f_may : (Nat → Int32)) (f_pad : (Nat → Int32)) (f_sunk : (Nat → Int32)) (f_times : (Nat → Int32)) (f_whoBore : (Nat → Int32)) (x_t_signs : Int32) (x_t_day : Int32) (x_t_reason : Int32) (x_t_asked : Int32) (v1 : Int32) {res : (Int32 × ((Nat → Int32) × (Nat → Int32) × (Nat → Int32) × (Nat → Int32) × (Nat → Int32) × (Nat → Int32) × (Nat → Int32) × Int32 × Int32))} (h : m_X8_filled f_may f_pad x_t_signs x_t_asked f_bears f_borneBy f_due f_gone f_sunk f_times f_whoBore x_t_day x_t_reason v1 = some res) : CT l yX8_filled wsX8_filled ({ frames := 3, cells := 0, slots := 0, locals := 70 } : Room) D cI cZ [.ref a_t, .int v1] [(a_t, .inr (8, [.ref a_may, .ref b_voyage, .ref b_lucky, .ref b_worths, .ref b_ranks, .int x_t_signs, .ref a_pad, .int x_t_day, .int x_t_reason, .ref a_bears, .ref a_due, .ref a_borneBy, .ref a_gone, .ref a_sunk, .ref a_times, .int x_t_asked, .ref a_whoBore, .ref b_gives, .ref b_best, .ref b_holds, .ref b_refused, .ref b_sums, .ref b_image, .ref b_isKept])), (a_bears, .inl (cI, 6, .inl f_bears)), (a_borneBy, .inl (cI, 5, .inl f_borneBy)), (a_due, .inl (cI, 5, .inl f_due)), (a_gone, .inl (cZ, 5, .inl f_gone)), (a_may, .inl (cI, 6, .inl f_may)), (a_pad, .inl (cI, 48, .inl f_pad)), (a_sunk, .inl (cZ, 6, .inl f_sunk)), (a_times, .inl (cI, 5, .inl f_times)), (a_whoBore, .inl (cI, 5, .inl f_whoBore))] (QI D [(a_t, .inr (8, [.ref a_may, .ref b_voyage, .ref b_lucky, .ref b_worths, .ref b_ranks, .int x_t_signs, .ref a_pad, .int x_t_day, .int x_t_reason, .ref a_bears, .ref a_due, .ref a_borneBy, .ref a_gone, .ref a_sunk, .ref a_times, .int x_t_asked, .ref a_whoBore, .ref b_gives, .ref b_best, .ref b_holds, .ref b_refused, .ref b_sums, .ref b_image, .ref b_isKept])), (a_bears, .inl (cI, 6, .inl f_bears)), (a_borneBy, .inl (cI, 5, .inl f_borneBy)), (a_due, .inl (cI, 5, .inl f_due)), (a_gone, .inl (cZ, 5, .inl f_gone)), (a_may, .inl (cI, 6, .inl f_may)), (a_pad, .inl (cI, 48, .inl f_pad)), (a_sunk, .inl (cZ, 6, .inl f_sunk)), (a_times, .inl (cI, 5, .inl f_times)), (a_whoBore, .inl (cI, 5, .inl f_whoBore))] (fun (r : Int32) (u : (Nat → Int32) × (Nat → Int32) × (Nat → Int32) × (Nat → Int32) × (Nat → Int32) × (Nat → Int32) × (Nat → Int32) × Int32 × Int32) => r = res.1 ∧ u = res.2) (fun (u : (Nat → Int32) × (Nat → Int32) × (Nat → Int32) × (Nat → Int32) × (Nat → Int32) × (Nat → Int32) × (Nat → Int32) × Int32 × Int32) => [(a_t, .inr (8, [.ref a_may, .ref b_voyage, .ref b_lucky, .ref b_worths, .ref b_ranks, .int x_t_signs, .ref a_pad, .int u.2.2.2.2.2.2.2.1, .int u.2.2.2.2.2.2.2.2, .ref a_bears, .ref a_due, .ref a_borneBy, .ref a_gone, .ref a_sunk, .ref a_times, .int x_t_asked, .ref a_whoBore, .ref b_gives, .ref b_best, .ref b_holds, .ref b_refused, .ref b_sums, .ref b_image, .ref b_isKept])), (a_bears, .inl (cI, 6, .inl u.1)), (a_borneBy, .inl (cI, 5, .inl u.2.1)), (a_due, .inl (cI, 5, .inl u.2.2.1)), (a_gone, .inl (cZ, 5, .inl u.2.2.2.1)), (a_may, .inl (cI, 6, .inl f_may)), (a_pad, .inl (cI, 48, .inl f_pad)), (a_sunk, .inl (cZ, 6, .inl u.2.2.2.2.1)), (a_times, .inl (cI, 5, .inl u.2.2.2.2.2.1)), (a_whoBore, .inl (cI, 5, .inl u.2.2.2.2.2.2.1))])) 0 0 := by
  have h : (ogb (m_X8_faultOf f_pad x_t_signs) (fun q_1 => if q_1 < 0 then ((m_X8_filled_18 f_may f_pad x_t_signs x_t_asked 1000000 v1 0 (-6) 0 f_bears f_borneBy f_due f_gone f_sunk f_times f_whoBore x_t_day x_t_reason)) else (some ((-5), (f_bears, f_borneBy, f_due, f_gone, f_sunk, f_times, f_whoBore, x_t_day, x_t_reason)))) : Option (Int32 × ((Nat → Int32) × (Nat → Int32) × (Nat → Int32) × (Nat → Int32) × (Nat → Int32) × (Nat → Int32) × (Nat → Int32) × Int32 × Int32))) = some res := h
  refine ct_entry (cc := cX8_filled) (nl := 6) (ret := (some .int)) (own := RX8) (lv0 := [(0, .ref a_t), (1, .int v1)]) (by decide) rfl rfl (Nat.le_of_ble_eq_true rfl) rfl ?_
  intro p e s m args below meth c A Q hA hQ hr hnm B
  have cut_95 : ∀ (fuel : Nat) (v1 : Int32) (v4 : Int32) (v5 : Int32) (f_bears : (Nat → Int32)) (f_borneBy : (Nat → Int32)) (f_due : (Nat → Int32)) (f_gone : (Nat → Int32)) (f_sunk : (Nat → Int32)) (f_times : (Nat → Int32)) (f_whoBore : (Nat → Int32)) (x_t_day : Int32) (x_t_reason : Int32), m_X8_filled_95 f_may f_pad x_t_signs x_t_asked fuel v1 v4 v5 f_bears f_borneBy f_due f_gone f_sunk f_times f_whoBore x_t_day x_t_reason = some res → WW p l e (headSpec wsX8_filled ({ frames := 3, cells := 0, slots := 0, locals := 70 } : Room)).room s m args below meth c D A 6 0 0 Q [(a_t, .inr (8, [.ref a_may, .ref b_voyage, .ref b_lucky, .ref b_worths, .ref b_ranks, .int x_t_signs, .ref a_pad, .int x_t_day, .int x_t_reason, .ref a_bears, .ref a_due, .ref a_borneBy, .ref a_gone, .ref a_sunk, .ref a_times, .int x_t_asked, .ref a_whoBore, .ref b_gives, .ref b_best, .ref b_holds, .ref b_refused, .ref b_sums, .ref b_image, .ref b_isKept])), (a_bears, .inl (cI, 6, .inl f_bears)), (a_borneBy, .inl (cI, 5, .inl f_borneBy)), (a_due, .inl (cI, 5, .inl f_due)), (a_gone, .inl (cZ, 5, .inl f_gone)), (a_may, .inl (cI, 6, .inl f_may)), (a_pad, .inl (cI, 48, .inl f_pad)), (a_sunk, .inl (cZ, 6, .inl f_sunk)), (a_times, .inl (cI, 5, .inl f_times)), (a_whoBore, .inl (cI, 5, .inl f_whoBore))] [(1, .int v1), (4, .int v4), (5, .int v5)] [] 95 := by
    intro fuel_95
    induction fuel_95 with
    | zero => intro v1 v4 v5 f_bears f_borneBy f_due f_gone f_sunk f_times f_whoBore x_t_day x_t_reason h; exact og_0 h
    | succ fuel_95 ih_95 =>
      intro v1 v4 v5 f_bears f_borneBy f_due f_gone f_sunk f_times f_whoBore x_t_day x_t_reason h
      replace h : (if v5 ≤ v1 then (some ((v4 - v4 / 6 * 6), (f_bears, f_borneBy, f_due, f_gone, f_sunk, f_times, f_whoBore, x_t_day, x_t_reason))) else (ogl (v4 / 6) (fun (v4_106 : Int32) => ogl (v5 + (-1)) (fun (v5_108 : Int32) => ((m_X8_filled_95 f_may f_pad x_t_signs x_t_asked fuel_95) v1 v4_106 v5_108 f_bears f_borneBy f_due f_gone f_sunk f_times f_whoBore x_t_day x_t_reason)))) : Option (Int32 × ((Nat → Int32) × (Nat → Int32) × (Nat → Int32) × (Nat → Int32) × (Nat → Int32) × (Nat → Int32) × (Nat → Int32) × Int32 × Int32))) = some res := h
      refine ww_iload B dX8_filled_95 2 rfl ?_
      refine ww_iload_n B dX8_filled_97 0 rfl ?_
      refine ww_icmp_le B 114 dX8_filled_98 (by decide) (fun c_98 => ?_) (fun c_98 => ?_)
      · replace h := og_t c_98 h
        refine ww_iload B dX8_filled_114 1 rfl ?_
        refine ww_bipush B dX8_filled_116 (v := 6) (by decide) ?_
        refine ww_irem B dX8_filled_118 (by decide) ?_
        exact ww_iret B hA hQ hr dX8_filled_119 (f_bears, f_borneBy, f_due, f_gone, f_sunk, f_times, f_whoBore, x_t_day, x_t_reason) [0, 1, 2, 3, 4, 5, 6, 7, 8, 9] rfl (by decide) (og_p h)
      · replace h := og_f c_98 h
        refine ww_iload B dX8_filled_101 1 rfl ?_
        refine ww_bipush B dX8_filled_103 (v := 6) (by decide) ?_
        refine ww_idiv B dX8_filled_105 (by decide) ?_
        refine ww_topi (fun v4_106 ev4_106 => ?_)
        replace h := og_l ev4_106 h
        refine ww_istore B dX8_filled_106 (lv' := [(4, .int v4_106), (1, .int v1), (5, .int v5)]) (by decide) rfl ?_
        obtain ⟨v5_108, ev5_108⟩ : ∃ y : Int32, y = (v5 + (-1)) := ⟨_, rfl⟩
        refine ww_iinc B dX8_filled_108 2 rfl (v := v5_108) (by rw [ev5_108]; rfl) (by decide) (lv' := [(5, .int v5_108), (4, .int v4_106), (1, .int v1)]) rfl ?_
        replace h := og_l ev5_108 h
        refine ww_goto B 95 dX8_filled_111 (by decide) ?_
        refine ww_lsel (lv' := [(1, .int v1), (4, .int v4_106), (5, .int v5_108)]) [2, 1, 0] rfl ?_
        exact ih_95 _ _ _ _ _ _ _ _ _ _ _ _ h
  have cut_18 : ∀ (fuel : Nat) (v1 : Int32) (v2 : Int32) (v3 : Int32) (v4 : Int32) (f_bears : (Nat → Int32)) (f_borneBy : (Nat → Int32)) (f_due : (Nat → Int32)) (f_gone : (Nat → Int32)) (f_sunk : (Nat → Int32)) (f_times : (Nat → Int32)) (f_whoBore : (Nat → Int32)) (x_t_day : Int32) (x_t_reason : Int32), m_X8_filled_18 f_may f_pad x_t_signs x_t_asked fuel v1 v2 v3 v4 f_bears f_borneBy f_due f_gone f_sunk f_times f_whoBore x_t_day x_t_reason = some res → WW p l e (headSpec wsX8_filled ({ frames := 3, cells := 0, slots := 0, locals := 70 } : Room)).room s m args below meth c D A 6 0 0 Q [(a_t, .inr (8, [.ref a_may, .ref b_voyage, .ref b_lucky, .ref b_worths, .ref b_ranks, .int x_t_signs, .ref a_pad, .int x_t_day, .int x_t_reason, .ref a_bears, .ref a_due, .ref a_borneBy, .ref a_gone, .ref a_sunk, .ref a_times, .int x_t_asked, .ref a_whoBore, .ref b_gives, .ref b_best, .ref b_holds, .ref b_refused, .ref b_sums, .ref b_image, .ref b_isKept])), (a_bears, .inl (cI, 6, .inl f_bears)), (a_borneBy, .inl (cI, 5, .inl f_borneBy)), (a_due, .inl (cI, 5, .inl f_due)), (a_gone, .inl (cZ, 5, .inl f_gone)), (a_may, .inl (cI, 6, .inl f_may)), (a_pad, .inl (cI, 48, .inl f_pad)), (a_sunk, .inl (cZ, 6, .inl f_sunk)), (a_times, .inl (cI, 5, .inl f_times)), (a_whoBore, .inl (cI, 5, .inl f_whoBore))] [(0, .ref a_t), (1, .int v1), (2, .int v2), (3, .int v3), (4, .int v4)] [] 18 := by
    intro fuel_18
    induction fuel_18 with
    | zero => intro v1 v2 v3 v4 f_bears f_borneBy f_due f_gone f_sunk f_times f_whoBore x_t_day x_t_reason h; exact og_0 h
    | succ fuel_18 ih_18 =>
      have cut_50 : ∀ (v1 : Int32) (v2 : Int32) (v3 : Int32) (v4 : Int32) (f_bears : (Nat → Int32)) (f_borneBy : (Nat → Int32)) (f_due : (Nat → Int32)) (f_gone : (Nat → Int32)) (f_sunk : (Nat → Int32)) (f_times : (Nat → Int32)) (f_whoBore : (Nat → Int32)) (x_t_day : Int32) (x_t_reason : Int32), m_X8_filled_50 (m_X8_filled_18 f_may f_pad x_t_signs x_t_asked fuel_18) f_may f_pad x_t_signs x_t_asked v1 v2 v3 v4 f_bears f_borneBy f_due f_gone f_sunk f_times f_whoBore x_t_day x_t_reason = some res → WW p l e (headSpec wsX8_filled ({ frames := 3, cells := 0, slots := 0, locals := 70 } : Room)).room s m args below meth c D A 6 0 0 Q [(a_t, .inr (8, [.ref a_may, .ref b_voyage, .ref b_lucky, .ref b_worths, .ref b_ranks, .int x_t_signs, .ref a_pad, .int x_t_day, .int x_t_reason, .ref a_bears, .ref a_due, .ref a_borneBy, .ref a_gone, .ref a_sunk, .ref a_times, .int x_t_asked, .ref a_whoBore, .ref b_gives, .ref b_best, .ref b_holds, .ref b_refused, .ref b_sums, .ref b_image, .ref b_isKept])), (a_bears, .inl (cI, 6, .inl f_bears)), (a_borneBy, .inl (cI, 5, .inl f_borneBy)), (a_due, .inl (cI, 5, .inl f_due)), (a_gone, .inl (cZ, 5, .inl f_gone)), (a_may, .inl (cI, 6, .inl f_may)), (a_pad, .inl (cI, 48, .inl f_pad)), (a_sunk, .inl (cZ, 6, .inl f_sunk)), (a_times, .inl (cI, 5, .inl f_times)), (a_whoBore, .inl (cI, 5, .inl f_whoBore))] [(0, .ref a_t), (1, .int v1), (2, .int v2), (3, .int v3), (4, .int v4)] [] 50 := by
        intro v1 v2 v3 v4 f_bears f_borneBy f_due f_gone f_sunk f_times f_whoBore x_t_day x_t_reason h
        replace h : (ogl (v4 + 1) (fun (v4_50 : Int32) => ((m_X8_filled_18 f_may f_pad x_t_signs x_t_asked fuel_18) v1 v2 v3 v4_50 f_bears f_borneBy f_due f_gone f_sunk f_times f_whoBore x_t_day x_t_reason)) : Option (Int32 × ((Nat → Int32) × (Nat → Int32) × (Nat → Int32) × (Nat → Int32) × (Nat → Int32) × (Nat → Int32) × (Nat → Int32) × Int32 × Int32))) = some res := h
        obtain ⟨v4_50, ev4_50⟩ : ∃ y : Int32, y = (v4 + 1) := ⟨_, rfl⟩
        refine ww_iinc B dX8_filled_50 4 rfl (v := v4_50) (by rw [ev4_50]; rfl) (by decide) (lv' := [(4, .int v4_50), (0, .ref a_t), (1, .int v1), (2, .int v2), (3, .int v3)]) rfl ?_
        replace h := og_l ev4_50 h
        refine ww_goto B 18 dX8_filled_53 (by decide) ?_
        refine ww_lsel (lv' := [(0, .ref a_t), (1, .int v1), (2, .int v2), (3, .int v3), (4, .int v4_50)]) [1, 2, 3, 4, 0] rfl ?_
        exact ih_18 _ _ _ _ _ _ _ _ _ _ _ _ _ h
      have cut_46 : ∀ (v1 : Int32) (v2 : Int32) (v4 : Int32) (s0 : Int32) (f_bears : (Nat → Int32)) (f_borneBy : (Nat → Int32)) (f_due : (Nat → Int32)) (f_gone : (Nat → Int32)) (f_sunk : (Nat → Int32)) (f_times : (Nat → Int32)) (f_whoBore : (Nat → Int32)) (x_t_day : Int32) (x_t_reason : Int32), m_X8_filled_46 (m_X8_filled_18 f_may f_pad x_t_signs x_t_asked fuel_18) f_may f_pad x_t_signs x_t_asked v1 v2 v4 s0 f_bears f_borneBy f_due f_gone f_sunk f_times f_whoBore x_t_day x_t_reason = some res → WW p l e (headSpec wsX8_filled ({ frames := 3, cells := 0, slots := 0, locals := 70 } : Room)).room s m args below meth c D A 6 0 0 Q [(a_t, .inr (8, [.ref a_may, .ref b_voyage, .ref b_lucky, .ref b_worths, .ref b_ranks, .int x_t_signs, .ref a_pad, .int x_t_day, .int x_t_reason, .ref a_bears, .ref a_due, .ref a_borneBy, .ref a_gone, .ref a_sunk, .ref a_times, .int x_t_asked, .ref a_whoBore, .ref b_gives, .ref b_best, .ref b_holds, .ref b_refused, .ref b_sums, .ref b_image, .ref b_isKept])), (a_bears, .inl (cI, 6, .inl f_bears)), (a_borneBy, .inl (cI, 5, .inl f_borneBy)), (a_due, .inl (cI, 5, .inl f_due)), (a_gone, .inl (cZ, 5, .inl f_gone)), (a_may, .inl (cI, 6, .inl f_may)), (a_pad, .inl (cI, 48, .inl f_pad)), (a_sunk, .inl (cZ, 6, .inl f_sunk)), (a_times, .inl (cI, 5, .inl f_times)), (a_whoBore, .inl (cI, 5, .inl f_whoBore))] [(0, .ref a_t), (1, .int v1), (2, .int v2), (4, .int v4)] [.int s0] 46 := by
        intro v1 v2 v4 s0 f_bears f_borneBy f_due f_gone f_sunk f_times f_whoBore x_t_day x_t_reason h
        replace h : (ogl (v2 + 1) (fun (v2_47 : Int32) => (m_X8_filled_50 (m_X8_filled_18 f_may f_pad x_t_signs x_t_asked fuel_18) f_may f_pad x_t_signs x_t_asked v1 v2_47 s0 v4 f_bears f_borneBy f_due f_gone f_sunk f_times f_whoBore x_t_day x_t_reason)) : Option (Int32 × ((Nat → Int32) × (Nat → Int32) × (Nat → Int32) × (Nat → Int32) × (Nat → Int32) × (Nat → Int32) × (Nat → Int32) × Int32 × Int32))) = some res := h
        refine ww_istore_n B dX8_filled_46 (lv' := [(3, .int s0), (0, .ref a_t), (1, .int v1), (2, .int v2), (4, .int v4)]) (by decide) rfl ?_
        obtain ⟨v2_47, ev2_47⟩ : ∃ y : Int32, y = (v2 + 1) := ⟨_, rfl⟩
        refine ww_iinc B dX8_filled_47 3 rfl (v := v2_47) (by rw [ev2_47]; rfl) (by decide) (lv' := [(2, .int v2_47), (3, .int s0), (0, .ref a_t), (1, .int v1), (4, .int v4)]) rfl ?_
        replace h := og_l ev2_47 h
        refine ww_lsel (lv' := [(0, .ref a_t), (1, .int v1), (2, .int v2_47), (3, .int s0), (4, .int v4)]) [2, 3, 0, 1, 4] rfl ?_
        exact cut_50 _ _ _ _ _ _ _ _ _ _ _ _ _ h
      intro v1 v2 v3 v4 f_bears f_borneBy f_due f_gone f_sunk f_times f_whoBore x_t_day x_t_reason h
      replace h : (ogb (m_X8_codes f_pad x_t_signs) (fun q_21 => if q_21 ≤ v4 then (if v1 = (-1) then (some (v2, (f_bears, f_borneBy, f_due, f_gone, f_sunk, f_times, f_whoBore, x_t_day, x_t_reason))) else (if v3 < 0 then (some ((-6), (f_bears, f_borneBy, f_due, f_gone, f_sunk, f_times, f_whoBore, x_t_day, x_t_reason))) else (ogb (m_X8_opens f_pad x_t_signs) (fun q_70 => ogb (m_X8_in v1 0 (q_70 - 1)) (fun q_75 => if q_75 = 0 then (some ((-6), (f_bears, f_borneBy, f_due, f_gone, f_sunk, f_times, f_whoBore, x_t_day, x_t_reason))) else (ogb (m_X8_opens f_pad x_t_signs) (fun q_88 => ogl (q_88 - 1) (fun (v5_93 : Int32) => (m_X8_filled_95 f_may f_pad x_t_signs x_t_asked 1000000 v1 v3 v5_93 f_bears f_borneBy f_due f_gone f_sunk f_times f_whoBore x_t_day x_t_reason))))))))) else (ogb (m_X8_goLog f_may f_pad x_t_signs x_t_asked f_bears f_borneBy f_due f_gone f_sunk f_times f_whoBore x_t_day x_t_reason v4) (fun q_30 => if 0 ≤ q_30.1 then ((m_X8_filled_50 (m_X8_filled_18 f_may f_pad x_t_signs x_t_asked fuel_18) f_may f_pad x_t_signs x_t_asked v1 v2 v3 v4 q_30.2.1 q_30.2.2.1 q_30.2.2.2.1 q_30.2.2.2.2.1 q_30.2.2.2.2.2.1 q_30.2.2.2.2.2.2.1 q_30.2.2.2.2.2.2.2.1 q_30.2.2.2.2.2.2.2.2.1 q_30.2.2.2.2.2.2.2.2.2)) else (if 0 ≤ v3 then ((m_X8_filled_46 (m_X8_filled_18 f_may f_pad x_t_signs x_t_asked fuel_18) f_may f_pad x_t_signs x_t_asked v1 v2 v4 v3 q_30.2.1 q_30.2.2.1 q_30.2.2.2.1 q_30.2.2.2.2.1 q_30.2.2.2.2.2.1 q_30.2.2.2.2.2.2.1 q_30.2.2.2.2.2.2.2.1 q_30.2.2.2.2.2.2.2.2.1 q_30.2.2.2.2.2.2.2.2.2)) else ((m_X8_filled_46 (m_X8_filled_18 f_may f_pad x_t_signs x_t_asked fuel_18) f_may f_pad x_t_signs x_t_asked v1 v2 v4 v4 q_30.2.1 q_30.2.2.1 q_30.2.2.2.1 q_30.2.2.2.2.1 q_30.2.2.2.2.2.1 q_30.2.2.2.2.2.2.1 q_30.2.2.2.2.2.2.2.1 q_30.2.2.2.2.2.2.2.2.1 q_30.2.2.2.2.2.2.2.2.2)))))) : Option (Int32 × ((Nat → Int32) × (Nat → Int32) × (Nat → Int32) × (Nat → Int32) × (Nat → Int32) × (Nat → Int32) × (Nat → Int32) × Int32 × Int32))) = some res := h
      refine ww_iload B dX8_filled_18 4 rfl ?_
      refine ww_aload_n B dX8_filled_20 0 rfl ?_
      obtain ⟨q_21, hq_21, h⟩ := og_b h
      refine ww_ci0 B (k' := 0) (n' := 0) rfl rfl [0, 6] [1, 2, 3, 4, 5, 7, 8, 9] (wr := [(a_bears, .inl (cI, 6, .inl f_bears)), (a_borneBy, .inl (cI, 5, .inl f_borneBy)), (a_due, .inl (cI, 5, .inl f_due)), (a_gone, .inl (cZ, 5, .inl f_gone)), (a_may, .inl (cI, 6, .inl f_may)), (a_sunk, .inl (cZ, 6, .inl f_sunk)), (a_times, .inl (cI, 5, .inl f_times)), (a_whoBore, .inl (cI, 5, .inl f_whoBore))]) (st := [.int v4]) rfl rfl (by decide) (rr_V B (c_X8_codes l D cI cZ a_t a_pad a_may b_voyage b_lucky b_worths b_ranks a_bears a_due a_borneBy a_gone a_sunk a_times a_whoBore b_gives b_best b_holds b_refused b_sums b_image b_isKept f_pad x_t_signs x_t_day x_t_reason x_t_asked hq_21) gX8_filled_X8_codes rfl rfl rfl (N := 0) rfl (by decide +kernel) ⟨Nat.le_of_ble_eq_true rfl, Nat.le_of_ble_eq_true rfl⟩ rfl dX8_filled_21 0 rfl rfl (Nat.le_of_ble_eq_true rfl) ⟨Nat.le_of_ble_eq_true rfl, Nat.le_of_ble_eq_true rfl⟩) (ws' := [(a_bears, .inl (cI, 6, .inl f_bears)), (a_borneBy, .inl (cI, 5, .inl f_borneBy)), (a_due, .inl (cI, 5, .inl f_due)), (a_gone, .inl (cZ, 5, .inl f_gone)), (a_may, .inl (cI, 6, .inl f_may)), (a_sunk, .inl (cZ, 6, .inl f_sunk)), (a_times, .inl (cI, 5, .inl f_times)), (a_whoBore, .inl (cI, 5, .inl f_whoBore)), (a_t, .inr (8, [.ref a_may, .ref b_voyage, .ref b_lucky, .ref b_worths, .ref b_ranks, .int x_t_signs, .ref a_pad, .int x_t_day, .int x_t_reason, .ref a_bears, .ref a_due, .ref a_borneBy, .ref a_gone, .ref a_sunk, .ref a_times, .int x_t_asked, .ref a_whoBore, .ref b_gives, .ref b_best, .ref b_holds, .ref b_refused, .ref b_sums, .ref b_image, .ref b_isKept])), (a_pad, .inl (cI, 48, .inl f_pad))]) rfl ?_
      refine ww_icmp_ge B 56 dX8_filled_24 (by decide) (fun c_24 => ?_) (fun c_24 => ?_)
      · replace h := og_t c_24 h
        refine ww_iload_n B dX8_filled_56 1 rfl ?_
        refine ww_iconst B dX8_filled_57 (v := (-1)) (by decide) ?_
        refine ww_icmp_ne B 63 dX8_filled_58 (by decide) (fun c_58 => ?_) (fun c_58 => ?_)
        · replace h := og_f c_58 h
          refine ww_iload_n B dX8_filled_63 3 rfl ?_
          refine ww_if_lt B 81 dX8_filled_64 (by decide) (fun c_64 => ?_) (fun c_64 => ?_)
          · replace h := og_t c_64 h
            refine ww_bipush B dX8_filled_81 (v := (-6)) (by decide) ?_
            exact ww_iret B hA hQ hr dX8_filled_83 (f_bears, f_borneBy, f_due, f_gone, f_sunk, f_times, f_whoBore, x_t_day, x_t_reason) [8, 0, 1, 2, 3, 4, 9, 5, 6, 7] rfl (by decide) (og_p h)
          · replace h := og_f c_64 h
            refine ww_iload_n B dX8_filled_67 1 rfl ?_
            refine ww_iconst B dX8_filled_68 (v := 0) (by decide) ?_
            refine ww_aload_n B dX8_filled_69 0 rfl ?_
            obtain ⟨q_70, hq_70, h⟩ := og_b h
            refine ww_ci0 B (k' := 0) (n' := 0) rfl rfl [8, 9] [0, 1, 2, 3, 4, 5, 6, 7] (wr := [(a_bears, .inl (cI, 6, .inl f_bears)), (a_borneBy, .inl (cI, 5, .inl f_borneBy)), (a_due, .inl (cI, 5, .inl f_due)), (a_gone, .inl (cZ, 5, .inl f_gone)), (a_may, .inl (cI, 6, .inl f_may)), (a_sunk, .inl (cZ, 6, .inl f_sunk)), (a_times, .inl (cI, 5, .inl f_times)), (a_whoBore, .inl (cI, 5, .inl f_whoBore))]) (st := [.int 0, .int v1]) rfl rfl (by decide) (rr_V B (c_X8_opens l D cI cZ a_t a_pad a_may b_voyage b_lucky b_worths b_ranks a_bears a_due a_borneBy a_gone a_sunk a_times a_whoBore b_gives b_best b_holds b_refused b_sums b_image b_isKept f_pad x_t_signs x_t_day x_t_reason x_t_asked hq_70) gX8_filled_X8_opens rfl rfl rfl (N := 0) rfl (by decide +kernel) ⟨Nat.le_of_ble_eq_true rfl, Nat.le_of_ble_eq_true rfl⟩ rfl dX8_filled_70 0 rfl rfl (Nat.le_of_ble_eq_true rfl) ⟨Nat.le_of_ble_eq_true rfl, Nat.le_of_ble_eq_true rfl⟩) (ws' := [(a_bears, .inl (cI, 6, .inl f_bears)), (a_borneBy, .inl (cI, 5, .inl f_borneBy)), (a_due, .inl (cI, 5, .inl f_due)), (a_gone, .inl (cZ, 5, .inl f_gone)), (a_may, .inl (cI, 6, .inl f_may)), (a_sunk, .inl (cZ, 6, .inl f_sunk)), (a_times, .inl (cI, 5, .inl f_times)), (a_whoBore, .inl (cI, 5, .inl f_whoBore)), (a_t, .inr (8, [.ref a_may, .ref b_voyage, .ref b_lucky, .ref b_worths, .ref b_ranks, .int x_t_signs, .ref a_pad, .int x_t_day, .int x_t_reason, .ref a_bears, .ref a_due, .ref a_borneBy, .ref a_gone, .ref a_sunk, .ref a_times, .int x_t_asked, .ref a_whoBore, .ref b_gives, .ref b_best, .ref b_holds, .ref b_refused, .ref b_sums, .ref b_image, .ref b_isKept])), (a_pad, .inl (cI, 48, .inl f_pad))]) rfl ?_
            refine ww_iconst B dX8_filled_73 (v := 1) (by decide) ?_
            refine ww_isub B dX8_filled_74 ?_
            obtain ⟨q_75, hq_75, h⟩ := og_b h
            refine ww_ci0 B (k' := 0) (n' := 0) rfl rfl [] [0, 1, 2, 3, 4, 5, 6, 7, 8, 9] (wr := [(a_bears, .inl (cI, 6, .inl f_bears)), (a_borneBy, .inl (cI, 5, .inl f_borneBy)), (a_due, .inl (cI, 5, .inl f_due)), (a_gone, .inl (cZ, 5, .inl f_gone)), (a_may, .inl (cI, 6, .inl f_may)), (a_sunk, .inl (cZ, 6, .inl f_sunk)), (a_times, .inl (cI, 5, .inl f_times)), (a_whoBore, .inl (cI, 5, .inl f_whoBore)), (a_t, .inr (8, [.ref a_may, .ref b_voyage, .ref b_lucky, .ref b_worths, .ref b_ranks, .int x_t_signs, .ref a_pad, .int x_t_day, .int x_t_reason, .ref a_bears, .ref a_due, .ref a_borneBy, .ref a_gone, .ref a_sunk, .ref a_times, .int x_t_asked, .ref a_whoBore, .ref b_gives, .ref b_best, .ref b_holds, .ref b_refused, .ref b_sums, .ref b_image, .ref b_isKept])), (a_pad, .inl (cI, 48, .inl f_pad))]) (st := []) rfl rfl (by decide) (rr_S B (c_X8_in l D cI cZ v1 0 (q_70 - 1) hq_75) gX8_filled_X8_in rfl rfl rfl (N := 3) rfl (by decide +kernel) ⟨Nat.le_of_ble_eq_true rfl, Nat.le_of_ble_eq_true rfl⟩ rfl dX8_filled_75 (Nat.le_of_ble_eq_true rfl) ⟨Nat.le_of_ble_eq_true rfl, Nat.le_of_ble_eq_true rfl⟩) (ws' := [(a_bears, .inl (cI, 6, .inl f_bears)), (a_borneBy, .inl (cI, 5, .inl f_borneBy)), (a_due, .inl (cI, 5, .inl f_due)), (a_gone, .inl (cZ, 5, .inl f_gone)), (a_may, .inl (cI, 6, .inl f_may)), (a_sunk, .inl (cZ, 6, .inl f_sunk)), (a_times, .inl (cI, 5, .inl f_times)), (a_whoBore, .inl (cI, 5, .inl f_whoBore)), (a_t, .inr (8, [.ref a_may, .ref b_voyage, .ref b_lucky, .ref b_worths, .ref b_ranks, .int x_t_signs, .ref a_pad, .int x_t_day, .int x_t_reason, .ref a_bears, .ref a_due, .ref a_borneBy, .ref a_gone, .ref a_sunk, .ref a_times, .int x_t_asked, .ref a_whoBore, .ref b_gives, .ref b_best, .ref b_holds, .ref b_refused, .ref b_sums, .ref b_image, .ref b_isKept])), (a_pad, .inl (cI, 48, .inl f_pad))]) rfl ?_
            refine ww_if_ne B 84 dX8_filled_78 (by decide) (fun c_78 => ?_) (fun c_78 => ?_)
            · replace h := og_f c_78 h
              refine ww_iload_n B dX8_filled_84 3 rfl ?_
              refine ww_istore B dX8_filled_85 (lv' := [(4, .int v3), (0, .ref a_t), (1, .int v1), (2, .int v2), (3, .int v3)]) (by decide) rfl ?_
              refine ww_aload_n B dX8_filled_87 1 rfl ?_
              obtain ⟨q_88, hq_88, h⟩ := og_b h
              refine ww_ci0 B (k' := 0) (n' := 0) rfl rfl [8, 9] [0, 1, 2, 3, 4, 5, 6, 7] (wr := [(a_bears, .inl (cI, 6, .inl f_bears)), (a_borneBy, .inl (cI, 5, .inl f_borneBy)), (a_due, .inl (cI, 5, .inl f_due)), (a_gone, .inl (cZ, 5, .inl f_gone)), (a_may, .inl (cI, 6, .inl f_may)), (a_sunk, .inl (cZ, 6, .inl f_sunk)), (a_times, .inl (cI, 5, .inl f_times)), (a_whoBore, .inl (cI, 5, .inl f_whoBore))]) (st := []) rfl rfl (by decide) (rr_V B (c_X8_opens l D cI cZ a_t a_pad a_may b_voyage b_lucky b_worths b_ranks a_bears a_due a_borneBy a_gone a_sunk a_times a_whoBore b_gives b_best b_holds b_refused b_sums b_image b_isKept f_pad x_t_signs x_t_day x_t_reason x_t_asked hq_88) gX8_filled_X8_opens rfl rfl rfl (N := 0) rfl (by decide +kernel) ⟨Nat.le_of_ble_eq_true rfl, Nat.le_of_ble_eq_true rfl⟩ rfl dX8_filled_88 0 rfl rfl (Nat.le_of_ble_eq_true rfl) ⟨Nat.le_of_ble_eq_true rfl, Nat.le_of_ble_eq_true rfl⟩) (ws' := [(a_bears, .inl (cI, 6, .inl f_bears)), (a_borneBy, .inl (cI, 5, .inl f_borneBy)), (a_due, .inl (cI, 5, .inl f_due)), (a_gone, .inl (cZ, 5, .inl f_gone)), (a_may, .inl (cI, 6, .inl f_may)), (a_sunk, .inl (cZ, 6, .inl f_sunk)), (a_times, .inl (cI, 5, .inl f_times)), (a_whoBore, .inl (cI, 5, .inl f_whoBore)), (a_t, .inr (8, [.ref a_may, .ref b_voyage, .ref b_lucky, .ref b_worths, .ref b_ranks, .int x_t_signs, .ref a_pad, .int x_t_day, .int x_t_reason, .ref a_bears, .ref a_due, .ref a_borneBy, .ref a_gone, .ref a_sunk, .ref a_times, .int x_t_asked, .ref a_whoBore, .ref b_gives, .ref b_best, .ref b_holds, .ref b_refused, .ref b_sums, .ref b_image, .ref b_isKept])), (a_pad, .inl (cI, 48, .inl f_pad))]) rfl ?_
              refine ww_iconst B dX8_filled_91 (v := 1) (by decide) ?_
              refine ww_isub B dX8_filled_92 ?_
              refine ww_topi (fun v5_93 ev5_93 => ?_)
              replace h := og_l ev5_93 h
              refine ww_istore B dX8_filled_93 (lv' := [(5, .int v5_93), (4, .int v3), (0, .ref a_t), (1, .int v1), (2, .int v2), (3, .int v3)]) (by decide) rfl ?_
              refine ww_sub (ws' := [(a_t, .inr (8, [.ref a_may, .ref b_voyage, .ref b_lucky, .ref b_worths, .ref b_ranks, .int x_t_signs, .ref a_pad, .int x_t_day, .int x_t_reason, .ref a_bears, .ref a_due, .ref a_borneBy, .ref a_gone, .ref a_sunk, .ref a_times, .int x_t_asked, .ref a_whoBore, .ref b_gives, .ref b_best, .ref b_holds, .ref b_refused, .ref b_sums, .ref b_image, .ref b_isKept])), (a_bears, .inl (cI, 6, .inl f_bears)), (a_borneBy, .inl (cI, 5, .inl f_borneBy)), (a_due, .inl (cI, 5, .inl f_due)), (a_gone, .inl (cZ, 5, .inl f_gone)), (a_may, .inl (cI, 6, .inl f_may)), (a_pad, .inl (cI, 48, .inl f_pad)), (a_sunk, .inl (cZ, 6, .inl f_sunk)), (a_times, .inl (cI, 5, .inl f_times)), (a_whoBore, .inl (cI, 5, .inl f_whoBore))]) [8, 0, 1, 2, 3, 4, 9, 5, 6, 7] rfl (by decide) ?_
              refine ww_lsel (lv' := [(1, .int v1), (4, .int v3), (5, .int v5_93)]) [3, 1, 0] rfl ?_
              exact cut_95 _ _ _ _ _ _ _ _ _ _ _ _ _ h
            · replace h := og_t c_78 h
              refine ww_bipush B dX8_filled_81 (v := (-6)) (by decide) ?_
              exact ww_iret B hA hQ hr dX8_filled_83 (f_bears, f_borneBy, f_due, f_gone, f_sunk, f_times, f_whoBore, x_t_day, x_t_reason) [8, 0, 1, 2, 3, 4, 9, 5, 6, 7] rfl (by decide) (og_p h)
        · replace h := og_t c_58 h
          refine ww_iload_n B dX8_filled_61 2 rfl ?_
          exact ww_iret B hA hQ hr dX8_filled_62 (f_bears, f_borneBy, f_due, f_gone, f_sunk, f_times, f_whoBore, x_t_day, x_t_reason) [8, 0, 1, 2, 3, 4, 9, 5, 6, 7] rfl (by decide) (og_p h)
      · replace h := og_f c_24 h
        refine ww_aload_n B dX8_filled_27 0 rfl ?_
        refine ww_iload B dX8_filled_28 4 rfl ?_
        obtain ⟨q_30, hq_30, h⟩ := og_b h
        refine ww_ciM B (k' := 0) (n' := 0) rfl rfl [8, 0, 1, 2, 3, 4, 9, 5, 6, 7] [] (wr := []) (st := []) rfl rfl (by decide) (rr_V B (c_X8_goLog l D cI cZ a_t a_bears a_borneBy a_due a_gone a_may a_pad a_sunk a_times a_whoBore b_voyage b_lucky b_worths b_ranks b_gives b_best b_holds b_refused b_sums b_image b_isKept f_bears f_borneBy f_due f_gone f_may f_pad f_sunk f_times f_whoBore x_t_signs x_t_day x_t_reason x_t_asked v4 hq_30) gX8_filled_X8_goLog rfl rfl rfl (N := 1) rfl (by decide +kernel) ⟨Nat.le_of_ble_eq_true rfl, Nat.le_of_ble_eq_true rfl⟩ rfl dX8_filled_30 0 rfl rfl (Nat.le_of_ble_eq_true rfl) ⟨Nat.le_of_ble_eq_true rfl, Nat.le_of_ble_eq_true rfl⟩) (ws' := [(a_t, .inr (8, [.ref a_may, .ref b_voyage, .ref b_lucky, .ref b_worths, .ref b_ranks, .int x_t_signs, .ref a_pad, .int q_30.2.2.2.2.2.2.2.2.1, .int q_30.2.2.2.2.2.2.2.2.2, .ref a_bears, .ref a_due, .ref a_borneBy, .ref a_gone, .ref a_sunk, .ref a_times, .int x_t_asked, .ref a_whoBore, .ref b_gives, .ref b_best, .ref b_holds, .ref b_refused, .ref b_sums, .ref b_image, .ref b_isKept])), (a_bears, .inl (cI, 6, .inl q_30.2.1)), (a_borneBy, .inl (cI, 5, .inl q_30.2.2.1)), (a_due, .inl (cI, 5, .inl q_30.2.2.2.1)), (a_gone, .inl (cZ, 5, .inl q_30.2.2.2.2.1)), (a_may, .inl (cI, 6, .inl f_may)), (a_pad, .inl (cI, 48, .inl f_pad)), (a_sunk, .inl (cZ, 6, .inl q_30.2.2.2.2.2.1)), (a_times, .inl (cI, 5, .inl q_30.2.2.2.2.2.2.1)), (a_whoBore, .inl (cI, 5, .inl q_30.2.2.2.2.2.2.2.1))]) rfl ?_
        refine ww_if_ge B 50 dX8_filled_33 (by decide) (fun c_33 => ?_) (fun c_33 => ?_)
        · replace h := og_t c_33 h
          exact cut_50 _ _ _ _ _ _ _ _ _ _ _ _ _ h
        · replace h := og_f c_33 h
          refine ww_iload_n B dX8_filled_36 3 rfl ?_
          refine ww_if_ge B 45 dX8_filled_37 (by decide) (fun c_37 => ?_) (fun c_37 => ?_)
          · replace h := og_t c_37 h
            refine ww_iload_n B dX8_filled_45 3 rfl ?_
            refine ww_lsel (lv' := [(0, .ref a_t), (1, .int v1), (2, .int v2), (4, .int v4)]) [0, 1, 2, 4] rfl ?_
            exact cut_46 _ _ _ _ _ _ _ _ _ _ _ _ _ h
          · replace h := og_f c_37 h
            refine ww_iload B dX8_filled_40 4 rfl ?_
            refine ww_goto B 46 dX8_filled_42 (by decide) ?_
            refine ww_lsel (lv' := [(0, .ref a_t), (1, .int v1), (2, .int v2), (4, .int v4)]) [0, 1, 2, 4] rfl ?_
            exact cut_46 _ _ _ _ _ _ _ _ _ _ _ _ _ h
  refine ww_aload_n B dX8_filled_0 0 rfl ?_
  obtain ⟨q_1, hq_1, h⟩ := og_b h
  refine ww_ci0 B (k' := 0) (n' := 0) rfl rfl [0, 6] [1, 2, 3, 4, 5, 7, 8, 9] (wr := [(a_bears, .inl (cI, 6, .inl f_bears)), (a_borneBy, .inl (cI, 5, .inl f_borneBy)), (a_due, .inl (cI, 5, .inl f_due)), (a_gone, .inl (cZ, 5, .inl f_gone)), (a_may, .inl (cI, 6, .inl f_may)), (a_sunk, .inl (cZ, 6, .inl f_sunk)), (a_times, .inl (cI, 5, .inl f_times)), (a_whoBore, .inl (cI, 5, .inl f_whoBore))]) (st := []) rfl rfl (by decide) (rr_V B (c_X8_faultOf l D cI cZ a_t a_pad a_may b_voyage b_lucky b_worths b_ranks a_bears a_due a_borneBy a_gone a_sunk a_times a_whoBore b_gives b_best b_holds b_refused b_sums b_image b_isKept f_pad x_t_signs x_t_day x_t_reason x_t_asked hq_1) gX8_filled_X8_faultOf rfl rfl rfl (N := 0) rfl (by decide +kernel) ⟨Nat.le_of_ble_eq_true rfl, Nat.le_of_ble_eq_true rfl⟩ rfl dX8_filled_1 0 rfl rfl (Nat.le_of_ble_eq_true rfl) ⟨Nat.le_of_ble_eq_true rfl, Nat.le_of_ble_eq_true rfl⟩) (ws' := [(a_bears, .inl (cI, 6, .inl f_bears)), (a_borneBy, .inl (cI, 5, .inl f_borneBy)), (a_due, .inl (cI, 5, .inl f_due)), (a_gone, .inl (cZ, 5, .inl f_gone)), (a_may, .inl (cI, 6, .inl f_may)), (a_sunk, .inl (cZ, 6, .inl f_sunk)), (a_times, .inl (cI, 5, .inl f_times)), (a_whoBore, .inl (cI, 5, .inl f_whoBore)), (a_t, .inr (8, [.ref a_may, .ref b_voyage, .ref b_lucky, .ref b_worths, .ref b_ranks, .int x_t_signs, .ref a_pad, .int x_t_day, .int x_t_reason, .ref a_bears, .ref a_due, .ref a_borneBy, .ref a_gone, .ref a_sunk, .ref a_times, .int x_t_asked, .ref a_whoBore, .ref b_gives, .ref b_best, .ref b_holds, .ref b_refused, .ref b_sums, .ref b_image, .ref b_isKept])), (a_pad, .inl (cI, 48, .inl f_pad))]) rfl ?_
  refine ww_if_lt B 10 dX8_filled_4 (by decide) (fun c_4 => ?_) (fun c_4 => ?_)
  · replace h := og_t c_4 h
    refine ww_iconst B dX8_filled_10 (v := 0) (by decide) ?_
    refine ww_istore_n B dX8_filled_11 (lv' := [(2, .int 0), (0, .ref a_t), (1, .int v1)]) (by decide) rfl ?_
    refine ww_bipush B dX8_filled_12 (v := (-6)) (by decide) ?_
    refine ww_istore_n B dX8_filled_14 (lv' := [(3, .int (-6)), (2, .int 0), (0, .ref a_t), (1, .int v1)]) (by decide) rfl ?_
    refine ww_iconst B dX8_filled_15 (v := 0) (by decide) ?_
    refine ww_istore B dX8_filled_16 (lv' := [(4, .int 0), (3, .int (-6)), (2, .int 0), (0, .ref a_t), (1, .int v1)]) (by decide) rfl ?_
    refine ww_sub (ws' := [(a_t, .inr (8, [.ref a_may, .ref b_voyage, .ref b_lucky, .ref b_worths, .ref b_ranks, .int x_t_signs, .ref a_pad, .int x_t_day, .int x_t_reason, .ref a_bears, .ref a_due, .ref a_borneBy, .ref a_gone, .ref a_sunk, .ref a_times, .int x_t_asked, .ref a_whoBore, .ref b_gives, .ref b_best, .ref b_holds, .ref b_refused, .ref b_sums, .ref b_image, .ref b_isKept])), (a_bears, .inl (cI, 6, .inl f_bears)), (a_borneBy, .inl (cI, 5, .inl f_borneBy)), (a_due, .inl (cI, 5, .inl f_due)), (a_gone, .inl (cZ, 5, .inl f_gone)), (a_may, .inl (cI, 6, .inl f_may)), (a_pad, .inl (cI, 48, .inl f_pad)), (a_sunk, .inl (cZ, 6, .inl f_sunk)), (a_times, .inl (cI, 5, .inl f_times)), (a_whoBore, .inl (cI, 5, .inl f_whoBore))]) [8, 0, 1, 2, 3, 4, 9, 5, 6, 7] rfl (by decide) ?_
    refine ww_lsel (lv' := [(0, .ref a_t), (1, .int v1), (2, .int 0), (3, .int (-6)), (4, .int 0)]) [3, 4, 2, 1, 0] rfl ?_
    exact cut_18 _ _ _ _ _ _ _ _ _ _ _ _ _ _ h
  · replace h := og_f c_4 h
    refine ww_bipush B dX8_filled_7 (v := (-5)) (by decide) ?_
    exact ww_iret B hA hQ hr dX8_filled_9 (f_bears, f_borneBy, f_due, f_gone, f_sunk, f_times, f_whoBore, x_t_day, x_t_reason) [8, 0, 1, 2, 3, 4, 9, 5, 6, 7] rfl (by decide) (og_p h)
noncomputable def m_X8_holderOf_26 (k5 : Int32 → Int32 → Int32 → Option Int32) (f_gives : (Nat → Int32)) (v1 : Int32) (v3 : Int32) (s0 : Int32) : Option Int32 := ogl (v3 + 1) (fun (v3_27 : Int32) => (k5 v1 s0 v3_27))
noncomputable def m_X8_holderOf_5b (k5 : Int32 → Int32 → Int32 → Option Int32) (f_gives : (Nat → Int32)) (v1 : Int32) (v2 : Int32) (v3 : Int32) : Option Int32 := if 6 ≤ v3 then (some v2) else (ogi v3 6 (if (f_gives (Int32.toNatClampNeg v3)) = v1 then ((m_X8_holderOf_26 k5 f_gives v1 v3 v3)) else ((m_X8_holderOf_26 k5 f_gives v1 v3 v2))))
noncomputable def m_X8_holderOf_5 (f_gives : (Nat → Int32)) (fuel : Nat) : Int32 → Int32 → Int32 → Option Int32 := Nat.rec (fun _ _ _ => none) (fun _ k5 => m_X8_holderOf_5b k5 f_gives) fuel
noncomputable def m_X8_holderOf (f_gives : (Nat → Int32)) (v1 : Int32) : Option Int32 := (m_X8_holderOf_5 f_gives 1000000 v1 (-6) 0)
set_option maxHeartbeats 4000000 in
set_option maxRecDepth 100000 in
theorem c_X8_holderOf (l : Launch) (D : va_G) (cI cZ : ClassId) (a_t a_gives b_may b_voyage b_lucky b_worths b_ranks b_pad b_bears b_due b_borneBy b_gone b_sunk b_times b_whoBore b_best b_holds b_refused b_sums b_image b_isKept : Nat) (f_gives : (Nat → Int32)) (x_t_signs : Int32) (x_t_day : Int32) (x_t_reason : Int32) (x_t_asked : Int32) (v1 : Int32) {res : Int32} (h : m_X8_holderOf f_gives v1 = some res) : CT l yX8_holderOf wsX8_holderOf ({ frames := 0, cells := 0, slots := 0, locals := 0 } : Room) D cI cZ [.ref a_t, .int v1] [(a_t, .inr (8, [.ref b_may, .ref b_voyage, .ref b_lucky, .ref b_worths, .ref b_ranks, .int x_t_signs, .ref b_pad, .int x_t_day, .int x_t_reason, .ref b_bears, .ref b_due, .ref b_borneBy, .ref b_gone, .ref b_sunk, .ref b_times, .int x_t_asked, .ref b_whoBore, .ref a_gives, .ref b_best, .ref b_holds, .ref b_refused, .ref b_sums, .ref b_image, .ref b_isKept])), (a_gives, .inl (cI, 6, .inl f_gives))] (QI D [(a_t, .inr (8, [.ref b_may, .ref b_voyage, .ref b_lucky, .ref b_worths, .ref b_ranks, .int x_t_signs, .ref b_pad, .int x_t_day, .int x_t_reason, .ref b_bears, .ref b_due, .ref b_borneBy, .ref b_gone, .ref b_sunk, .ref b_times, .int x_t_asked, .ref b_whoBore, .ref a_gives, .ref b_best, .ref b_holds, .ref b_refused, .ref b_sums, .ref b_image, .ref b_isKept])), (a_gives, .inl (cI, 6, .inl f_gives))] (fun (r : Int32) (_ : Unit) => r = res) (fun (u : Unit) => [(a_t, .inr (8, [.ref b_may, .ref b_voyage, .ref b_lucky, .ref b_worths, .ref b_ranks, .int x_t_signs, .ref b_pad, .int x_t_day, .int x_t_reason, .ref b_bears, .ref b_due, .ref b_borneBy, .ref b_gone, .ref b_sunk, .ref b_times, .int x_t_asked, .ref b_whoBore, .ref a_gives, .ref b_best, .ref b_holds, .ref b_refused, .ref b_sums, .ref b_image, .ref b_isKept])), (a_gives, .inl (cI, 6, .inl f_gives))])) 0 0 := by
  have h : ((m_X8_holderOf_5 f_gives 1000000 v1 (-6) 0) : Option Int32) = some res := h
  refine ct_entry (cc := cX8_holderOf) (nl := 4) (ret := (some .int)) (own := RX8) (lv0 := [(0, .ref a_t), (1, .int v1)]) (by decide) rfl rfl (Nat.le_of_ble_eq_true rfl) rfl ?_
  intro p e s m args below meth c A Q hA hQ hr hnm B
  have iX8 : ∀ w ∈ wsX80, w ∈ wsX8_holderOf := by decide +kernel
  have cut_5 : ∀ (fuel : Nat) (v1 : Int32) (v2 : Int32) (v3 : Int32), m_X8_holderOf_5 f_gives fuel v1 v2 v3 = some res → WW p l e (headSpec wsX8_holderOf ({ frames := 0, cells := 0, slots := 0, locals := 0 } : Room)).room s m args below meth c D A 4 0 0 Q [(a_t, .inr (8, [.ref b_may, .ref b_voyage, .ref b_lucky, .ref b_worths, .ref b_ranks, .int x_t_signs, .ref b_pad, .int x_t_day, .int x_t_reason, .ref b_bears, .ref b_due, .ref b_borneBy, .ref b_gone, .ref b_sunk, .ref b_times, .int x_t_asked, .ref b_whoBore, .ref a_gives, .ref b_best, .ref b_holds, .ref b_refused, .ref b_sums, .ref b_image, .ref b_isKept])), (a_gives, .inl (cI, 6, .inl f_gives))] [(0, .ref a_t), (1, .int v1), (2, .int v2), (3, .int v3)] [] 5 := by
    intro fuel_5
    induction fuel_5 with
    | zero => intro v1 v2 v3 h; exact og_0 h
    | succ fuel_5 ih_5 =>
      have cut_26 : ∀ (v1 : Int32) (v3 : Int32) (s0 : Int32), m_X8_holderOf_26 (m_X8_holderOf_5 f_gives fuel_5) f_gives v1 v3 s0 = some res → WW p l e (headSpec wsX8_holderOf ({ frames := 0, cells := 0, slots := 0, locals := 0 } : Room)).room s m args below meth c D A 4 0 0 Q [(a_t, .inr (8, [.ref b_may, .ref b_voyage, .ref b_lucky, .ref b_worths, .ref b_ranks, .int x_t_signs, .ref b_pad, .int x_t_day, .int x_t_reason, .ref b_bears, .ref b_due, .ref b_borneBy, .ref b_gone, .ref b_sunk, .ref b_times, .int x_t_asked, .ref b_whoBore, .ref a_gives, .ref b_best, .ref b_holds, .ref b_refused, .ref b_sums, .ref b_image, .ref b_isKept])), (a_gives, .inl (cI, 6, .inl f_gives))] [(0, .ref a_t), (1, .int v1), (3, .int v3)] [.int s0] 26 := by
        intro v1 v3 s0 h
        replace h : (ogl (v3 + 1) (fun (v3_27 : Int32) => ((m_X8_holderOf_5 f_gives fuel_5) v1 s0 v3_27)) : Option Int32) = some res := h
        refine ww_istore_n B dX8_holderOf_26 (lv' := [(2, .int s0), (0, .ref a_t), (1, .int v1), (3, .int v3)]) (by decide) rfl ?_
        obtain ⟨v3_27, ev3_27⟩ : ∃ y : Int32, y = (v3 + 1) := ⟨_, rfl⟩
        refine ww_iinc B dX8_holderOf_27 3 rfl (v := v3_27) (by rw [ev3_27]; rfl) (by decide) (lv' := [(3, .int v3_27), (2, .int s0), (0, .ref a_t), (1, .int v1)]) rfl ?_
        replace h := og_l ev3_27 h
        refine ww_goto B 5 dX8_holderOf_30 (by decide) ?_
        refine ww_lsel (lv' := [(0, .ref a_t), (1, .int v1), (2, .int s0), (3, .int v3_27)]) [2, 3, 1, 0] rfl ?_
        exact ih_5 _ _ _ h
      intro v1 v2 v3 h
      replace h : (if 6 ≤ v3 then (some v2) else (ogi v3 6 (if (f_gives (Int32.toNatClampNeg v3)) = v1 then ((m_X8_holderOf_26 (m_X8_holderOf_5 f_gives fuel_5) f_gives v1 v3 v3)) else ((m_X8_holderOf_26 (m_X8_holderOf_5 f_gives fuel_5) f_gives v1 v3 v2)))) : Option Int32) = some res := h
      refine ww_iload_n B dX8_holderOf_5 3 rfl ?_
      refine ww_bipush B dX8_holderOf_6 (v := 6) (by decide) ?_
      refine ww_icmp_ge B 33 dX8_holderOf_8 (by decide) (fun c_8 => ?_) (fun c_8 => ?_)
      · replace h := og_t c_8 h
        refine ww_iload_n B dX8_holderOf_33 2 rfl ?_
        exact ww_iret B hA hQ hr dX8_holderOf_34 () [0, 1] rfl (by decide) (og_s h).symm
      · replace h := og_f c_8 h
        refine ww_aload_n B dX8_holderOf_11 0 rfl ?_
        refine ww_get (ci := 8) (T := TX8) (C := RX8) (N := 24) B iX8 0 rfl rfl 17 (by decide) (by decide +kernel) rfl rfl dX8_holderOf_12 ?_
        refine ww_iload_n B dX8_holderOf_15 3 rfl ?_
        obtain ⟨i_16, h⟩ := og_i h
        refine ww_iald B 1 rfl i_16 dX8_holderOf_16 ?_
        refine ww_iload_n B dX8_holderOf_17 1 rfl ?_
        refine ww_icmp_ne B 25 dX8_holderOf_18 (by decide) (fun c_18 => ?_) (fun c_18 => ?_)
        · replace h := og_f c_18 h
          refine ww_iload_n B dX8_holderOf_25 2 rfl ?_
          refine ww_lsel (lv' := [(0, .ref a_t), (1, .int v1), (3, .int v3)]) [0, 1, 3] rfl ?_
          exact cut_26 _ _ _ h
        · replace h := og_t c_18 h
          refine ww_iload_n B dX8_holderOf_21 3 rfl ?_
          refine ww_goto B 26 dX8_holderOf_22 (by decide) ?_
          refine ww_lsel (lv' := [(0, .ref a_t), (1, .int v1), (3, .int v3)]) [0, 1, 3] rfl ?_
          exact cut_26 _ _ _ h
  refine ww_bipush B dX8_holderOf_0 (v := (-6)) (by decide) ?_
  refine ww_istore_n B dX8_holderOf_2 (lv' := [(2, .int (-6)), (0, .ref a_t), (1, .int v1)]) (by decide) rfl ?_
  refine ww_iconst B dX8_holderOf_3 (v := 0) (by decide) ?_
  refine ww_istore_n B dX8_holderOf_4 (lv' := [(3, .int 0), (2, .int (-6)), (0, .ref a_t), (1, .int v1)]) (by decide) rfl ?_
  refine ww_lsel (lv' := [(0, .ref a_t), (1, .int v1), (2, .int (-6)), (3, .int 0)]) [2, 3, 1, 0] rfl ?_
  exact cut_5 _ _ _ _ h
noncomputable def m_X8_home_68b (k68 : Int32 → Int64 → Int64 → Int64 → Int64 → Option Int64) (f_lucky : (Nat → Int32)) (v3 : Int32) (v4 : Int64) (v6 : Int64) (v8 : Int64) (v10 : Int64) : Option Int64 := if (lg_cmp v10 0) = 0 then (if v3 = 0 then (ogn (v8 = 0) (some (v4 / v8))) else (ogn (v8 = 0) (some (v6 / v8)))) else (ogn (v10 = 0) (ogl (v8 - v8 / v10 * v10) (fun (v12_80 : Int64) => (k68 v3 v4 v6 v10 v12_80))))
noncomputable def m_X8_home_68 (f_lucky : (Nat → Int32)) (fuel : Nat) : Int32 → Int64 → Int64 → Int64 → Int64 → Option Int64 := Nat.rec (fun _ _ _ _ _ => none) (fun _ k68 => m_X8_home_68b k68 f_lucky) fuel
noncomputable def m_X8_home (f_lucky : (Nat → Int32)) (v1 : Int32) (v2 : Int32) (v3 : Int32) : Option Int64 := ogb (m_X8_isName v1) (fun q_1 => if q_1 = 0 then (some (-1000000000000000001)) else (ogb (m_X8_in v2 1 7) (fun q_15 => if q_15 = 0 then (some (-1000000000000000002)) else (ogb (m_X8_in v3 0 1) (fun q_24 => if q_24 = 0 then (some (-1000000000000000002)) else (ogi v1 5 (ogb (m_X8_power (90 + (Int32.toInt64 (f_lucky (Int32.toNatClampNeg v1)))) v2) (fun q_46 => ogb (m_X8_power 100 v2) (fun q_55 => (m_X8_home_68 f_lucky 1000000 v3 q_46 q_55 q_46 q_55))))))))))
set_option maxHeartbeats 4000000 in
set_option maxRecDepth 100000 in
theorem c_X8_home (l : Launch) (D : va_G) (cI cZ : ClassId) (a_t a_lucky b_may b_voyage b_worths b_ranks b_pad b_bears b_due b_borneBy b_gone b_sunk b_times b_whoBore b_gives b_best b_holds b_refused b_sums b_image b_isKept : Nat) (f_lucky : (Nat → Int32)) (x_t_signs : Int32) (x_t_day : Int32) (x_t_reason : Int32) (x_t_asked : Int32) (v1 : Int32) (v2 : Int32) (v3 : Int32) {res : Int64} (h : m_X8_home f_lucky v1 v2 v3 = some res) : CT l yX8_home wsX8_home ({ frames := 2, cells := 0, slots := 0, locals := 42 } : Room) D cI cZ [.ref a_t, .int v1, .int v2, .int v3] [(a_t, .inr (8, [.ref b_may, .ref b_voyage, .ref a_lucky, .ref b_worths, .ref b_ranks, .int x_t_signs, .ref b_pad, .int x_t_day, .int x_t_reason, .ref b_bears, .ref b_due, .ref b_borneBy, .ref b_gone, .ref b_sunk, .ref b_times, .int x_t_asked, .ref b_whoBore, .ref b_gives, .ref b_best, .ref b_holds, .ref b_refused, .ref b_sums, .ref b_image, .ref b_isKept])), (a_lucky, .inl (cI, 5, .inl f_lucky))] (QL D [(a_t, .inr (8, [.ref b_may, .ref b_voyage, .ref a_lucky, .ref b_worths, .ref b_ranks, .int x_t_signs, .ref b_pad, .int x_t_day, .int x_t_reason, .ref b_bears, .ref b_due, .ref b_borneBy, .ref b_gone, .ref b_sunk, .ref b_times, .int x_t_asked, .ref b_whoBore, .ref b_gives, .ref b_best, .ref b_holds, .ref b_refused, .ref b_sums, .ref b_image, .ref b_isKept])), (a_lucky, .inl (cI, 5, .inl f_lucky))] (fun (r : Int64) (_ : Unit) => r = res) (fun (u : Unit) => [(a_t, .inr (8, [.ref b_may, .ref b_voyage, .ref a_lucky, .ref b_worths, .ref b_ranks, .int x_t_signs, .ref b_pad, .int x_t_day, .int x_t_reason, .ref b_bears, .ref b_due, .ref b_borneBy, .ref b_gone, .ref b_sunk, .ref b_times, .int x_t_asked, .ref b_whoBore, .ref b_gives, .ref b_best, .ref b_holds, .ref b_refused, .ref b_sums, .ref b_image, .ref b_isKept])), (a_lucky, .inl (cI, 5, .inl f_lucky))])) 0 0 := by
  have h : (ogb (m_X8_isName v1) (fun q_1 => if q_1 = 0 then (some (-1000000000000000001)) else (ogb (m_X8_in v2 1 7) (fun q_15 => if q_15 = 0 then (some (-1000000000000000002)) else (ogb (m_X8_in v3 0 1) (fun q_24 => if q_24 = 0 then (some (-1000000000000000002)) else (ogi v1 5 (ogb (m_X8_power (90 + (Int32.toInt64 (f_lucky (Int32.toNatClampNeg v1)))) v2) (fun q_46 => ogb (m_X8_power 100 v2) (fun q_55 => (m_X8_home_68 f_lucky 1000000 v3 q_46 q_55 q_46 q_55)))))))))) : Option Int64) = some res := h
  refine ct_entry (cc := cX8_home) (nl := 14) (ret := (some .long)) (own := RX8) (lv0 := [(0, .ref a_t), (1, .int v1), (2, .int v2), (3, .int v3)]) (by decide) rfl rfl (Nat.le_of_ble_eq_true rfl) rfl ?_
  intro p e s m args below meth c A Q hA hQ hr hnm B
  have iX8 : ∀ w ∈ wsX80, w ∈ wsX8_home := by decide +kernel
  have cut_68 : ∀ (fuel : Nat) (v3 : Int32) (v4 : Int64) (v6 : Int64) (v8 : Int64) (v10 : Int64), m_X8_home_68 f_lucky fuel v3 v4 v6 v8 v10 = some res → WW p l e (headSpec wsX8_home ({ frames := 2, cells := 0, slots := 0, locals := 42 } : Room)).room s m args below meth c D A 14 0 0 Q [(a_t, .inr (8, [.ref b_may, .ref b_voyage, .ref a_lucky, .ref b_worths, .ref b_ranks, .int x_t_signs, .ref b_pad, .int x_t_day, .int x_t_reason, .ref b_bears, .ref b_due, .ref b_borneBy, .ref b_gone, .ref b_sunk, .ref b_times, .int x_t_asked, .ref b_whoBore, .ref b_gives, .ref b_best, .ref b_holds, .ref b_refused, .ref b_sums, .ref b_image, .ref b_isKept])), (a_lucky, .inl (cI, 5, .inl f_lucky))] [(3, .int v3), (4, .long v4), (6, .long v6), (8, .long v8), (10, .long v10)] [] 68 := by
    intro fuel_68
    induction fuel_68 with
    | zero => intro v3 v4 v6 v8 v10 h; exact og_0 h
    | succ fuel_68 ih_68 =>
      intro v3 v4 v6 v8 v10 h
      replace h : (if (lg_cmp v10 0) = 0 then (if v3 = 0 then (ogn (v8 = 0) (some (v4 / v8))) else (ogn (v8 = 0) (some (v6 / v8)))) else (ogn (v10 = 0) (ogl (v8 - v8 / v10 * v10) (fun (v12_80 : Int64) => ((m_X8_home_68 f_lucky fuel_68) v3 v4 v6 v10 v12_80)))) : Option Int64) = some res := h
      refine ww_lload B dX8_home_68 4 rfl ?_
      refine ww_lconst B dX8_home_70 (v := 0) (by decide) ?_
      refine ww_lcmp B dX8_home_71 ?_
      refine ww_if_eq B 93 dX8_home_72 (by decide) (fun c_72 => ?_) (fun c_72 => ?_)
      · replace h := og_t c_72 h
        refine ww_iload_n B dX8_home_93 0 rfl ?_
        refine ww_if_ne B 105 dX8_home_94 (by decide) (fun c_94 => ?_) (fun c_94 => ?_)
        · replace h := og_f c_94 h
          refine ww_lload B dX8_home_105 2 rfl ?_
          refine ww_lload B dX8_home_107 3 rfl ?_
          obtain ⟨z_109, h⟩ := og_n h
          refine ww_ldiv B dX8_home_109 z_109 ?_
          exact ww_lret B hA hQ hr dX8_home_110 () [0, 1] rfl (by decide) (og_s h).symm
        · replace h := og_t c_94 h
          refine ww_lload B dX8_home_97 1 rfl ?_
          refine ww_lload B dX8_home_99 3 rfl ?_
          obtain ⟨z_101, h⟩ := og_n h
          refine ww_ldiv B dX8_home_101 z_101 ?_
          refine ww_goto B 110 dX8_home_102 (by decide) ?_
          exact ww_lret B hA hQ hr dX8_home_110 () [0, 1] rfl (by decide) (og_s h).symm
      · replace h := og_f c_72 h
        refine ww_lload B dX8_home_75 3 rfl ?_
        refine ww_lload B dX8_home_77 4 rfl ?_
        obtain ⟨z_79, h⟩ := og_n h
        refine ww_lrem B dX8_home_79 z_79 ?_
        refine ww_topl (fun v12_80 ev12_80 => ?_)
        replace h := og_l ev12_80 h
        refine ww_lstore B dX8_home_80 (lv' := [(12, .long v12_80), (3, .int v3), (4, .long v4), (6, .long v6), (8, .long v8), (10, .long v10)]) (by decide) rfl ?_
        refine ww_lload B dX8_home_82 5 rfl ?_
        refine ww_lstore B dX8_home_84 (lv' := [(8, .long v10), (12, .long v12_80), (3, .int v3), (4, .long v4), (6, .long v6), (10, .long v10)]) (by decide) rfl ?_
        refine ww_lload B dX8_home_86 1 rfl ?_
        refine ww_lstore B dX8_home_88 (lv' := [(10, .long v12_80), (8, .long v10), (12, .long v12_80), (3, .int v3), (4, .long v4), (6, .long v6)]) (by decide) rfl ?_
        refine ww_goto B 68 dX8_home_90 (by decide) ?_
        refine ww_lsel (lv' := [(3, .int v3), (4, .long v4), (6, .long v6), (8, .long v10), (10, .long v12_80)]) [3, 4, 5, 1, 0] rfl ?_
        exact ih_68 _ _ _ _ _ h
  refine ww_iload_n B dX8_home_0 1 rfl ?_
  obtain ⟨q_1, hq_1, h⟩ := og_b h
  refine ww_ci0 B (k' := 0) (n' := 0) rfl rfl [] [0, 1] (wr := [(a_t, .inr (8, [.ref b_may, .ref b_voyage, .ref a_lucky, .ref b_worths, .ref b_ranks, .int x_t_signs, .ref b_pad, .int x_t_day, .int x_t_reason, .ref b_bears, .ref b_due, .ref b_borneBy, .ref b_gone, .ref b_sunk, .ref b_times, .int x_t_asked, .ref b_whoBore, .ref b_gives, .ref b_best, .ref b_holds, .ref b_refused, .ref b_sums, .ref b_image, .ref b_isKept])), (a_lucky, .inl (cI, 5, .inl f_lucky))]) (st := []) rfl rfl (by decide) (rr_S B (c_X8_isName l D cI cZ v1 hq_1) gX8_home_X8_isName rfl rfl rfl (N := 1) rfl (by decide +kernel) ⟨Nat.le_of_ble_eq_true rfl, Nat.le_of_ble_eq_true rfl⟩ rfl dX8_home_1 (Nat.le_of_ble_eq_true rfl) ⟨Nat.le_of_ble_eq_true rfl, Nat.le_of_ble_eq_true rfl⟩) (ws' := [(a_t, .inr (8, [.ref b_may, .ref b_voyage, .ref a_lucky, .ref b_worths, .ref b_ranks, .int x_t_signs, .ref b_pad, .int x_t_day, .int x_t_reason, .ref b_bears, .ref b_due, .ref b_borneBy, .ref b_gone, .ref b_sunk, .ref b_times, .int x_t_asked, .ref b_whoBore, .ref b_gives, .ref b_best, .ref b_holds, .ref b_refused, .ref b_sums, .ref b_image, .ref b_isKept])), (a_lucky, .inl (cI, 5, .inl f_lucky))]) rfl ?_
  refine ww_if_ne B 11 dX8_home_4 (by decide) (fun c_4 => ?_) (fun c_4 => ?_)
  · replace h := og_f c_4 h
    refine ww_iload_n B dX8_home_11 2 rfl ?_
    refine ww_iconst B dX8_home_12 (v := 1) (by decide) ?_
    refine ww_bipush B dX8_home_13 (v := 7) (by decide) ?_
    obtain ⟨q_15, hq_15, h⟩ := og_b h
    refine ww_ci0 B (k' := 0) (n' := 0) rfl rfl [] [0, 1] (wr := [(a_t, .inr (8, [.ref b_may, .ref b_voyage, .ref a_lucky, .ref b_worths, .ref b_ranks, .int x_t_signs, .ref b_pad, .int x_t_day, .int x_t_reason, .ref b_bears, .ref b_due, .ref b_borneBy, .ref b_gone, .ref b_sunk, .ref b_times, .int x_t_asked, .ref b_whoBore, .ref b_gives, .ref b_best, .ref b_holds, .ref b_refused, .ref b_sums, .ref b_image, .ref b_isKept])), (a_lucky, .inl (cI, 5, .inl f_lucky))]) (st := []) rfl rfl (by decide) (rr_S B (c_X8_in l D cI cZ v2 1 7 hq_15) gX8_home_X8_in rfl rfl rfl (N := 3) rfl (by decide +kernel) ⟨Nat.le_of_ble_eq_true rfl, Nat.le_of_ble_eq_true rfl⟩ rfl dX8_home_15 (Nat.le_of_ble_eq_true rfl) ⟨Nat.le_of_ble_eq_true rfl, Nat.le_of_ble_eq_true rfl⟩) (ws' := [(a_t, .inr (8, [.ref b_may, .ref b_voyage, .ref a_lucky, .ref b_worths, .ref b_ranks, .int x_t_signs, .ref b_pad, .int x_t_day, .int x_t_reason, .ref b_bears, .ref b_due, .ref b_borneBy, .ref b_gone, .ref b_sunk, .ref b_times, .int x_t_asked, .ref b_whoBore, .ref b_gives, .ref b_best, .ref b_holds, .ref b_refused, .ref b_sums, .ref b_image, .ref b_isKept])), (a_lucky, .inl (cI, 5, .inl f_lucky))]) rfl ?_
    refine ww_if_eq B 30 dX8_home_18 (by decide) (fun c_18 => ?_) (fun c_18 => ?_)
    · replace h := og_t c_18 h
      refine ww_ldc2 B (v := (-1000000000000000002)) (by decide +kernel) dX8_home_30 ?_
      exact ww_lret B hA hQ hr dX8_home_33 () [0, 1] rfl (by decide) (og_s h).symm
    · replace h := og_f c_18 h
      refine ww_iload_n B dX8_home_21 3 rfl ?_
      refine ww_iconst B dX8_home_22 (v := 0) (by decide) ?_
      refine ww_iconst B dX8_home_23 (v := 1) (by decide) ?_
      obtain ⟨q_24, hq_24, h⟩ := og_b h
      refine ww_ci0 B (k' := 0) (n' := 0) rfl rfl [] [0, 1] (wr := [(a_t, .inr (8, [.ref b_may, .ref b_voyage, .ref a_lucky, .ref b_worths, .ref b_ranks, .int x_t_signs, .ref b_pad, .int x_t_day, .int x_t_reason, .ref b_bears, .ref b_due, .ref b_borneBy, .ref b_gone, .ref b_sunk, .ref b_times, .int x_t_asked, .ref b_whoBore, .ref b_gives, .ref b_best, .ref b_holds, .ref b_refused, .ref b_sums, .ref b_image, .ref b_isKept])), (a_lucky, .inl (cI, 5, .inl f_lucky))]) (st := []) rfl rfl (by decide) (rr_S B (c_X8_in l D cI cZ v3 0 1 hq_24) gX8_home_X8_in rfl rfl rfl (N := 3) rfl (by decide +kernel) ⟨Nat.le_of_ble_eq_true rfl, Nat.le_of_ble_eq_true rfl⟩ rfl dX8_home_24 (Nat.le_of_ble_eq_true rfl) ⟨Nat.le_of_ble_eq_true rfl, Nat.le_of_ble_eq_true rfl⟩) (ws' := [(a_t, .inr (8, [.ref b_may, .ref b_voyage, .ref a_lucky, .ref b_worths, .ref b_ranks, .int x_t_signs, .ref b_pad, .int x_t_day, .int x_t_reason, .ref b_bears, .ref b_due, .ref b_borneBy, .ref b_gone, .ref b_sunk, .ref b_times, .int x_t_asked, .ref b_whoBore, .ref b_gives, .ref b_best, .ref b_holds, .ref b_refused, .ref b_sums, .ref b_image, .ref b_isKept])), (a_lucky, .inl (cI, 5, .inl f_lucky))]) rfl ?_
      refine ww_if_ne B 34 dX8_home_27 (by decide) (fun c_27 => ?_) (fun c_27 => ?_)
      · replace h := og_f c_27 h
        refine ww_ldc2 B (v := 90) (by decide +kernel) dX8_home_34 ?_
        refine ww_aload_n B dX8_home_37 0 rfl ?_
        refine ww_get (ci := 8) (T := TX8) (C := RX8) (N := 24) B iX8 0 rfl rfl 2 (by decide) (by decide +kernel) rfl rfl dX8_home_38 ?_
        refine ww_iload_n B dX8_home_41 1 rfl ?_
        obtain ⟨i_42, h⟩ := og_i h
        refine ww_iald B 1 rfl i_42 dX8_home_42 ?_
        refine ww_i2l B dX8_home_43 rfl ?_
        refine ww_ladd B dX8_home_44 ?_
        refine ww_iload_n B dX8_home_45 2 rfl ?_
        obtain ⟨q_46, hq_46, h⟩ := og_b h
        refine ww_cl0 B (k' := 0) (n' := 0) rfl rfl [] [0, 1] (wr := [(a_t, .inr (8, [.ref b_may, .ref b_voyage, .ref a_lucky, .ref b_worths, .ref b_ranks, .int x_t_signs, .ref b_pad, .int x_t_day, .int x_t_reason, .ref b_bears, .ref b_due, .ref b_borneBy, .ref b_gone, .ref b_sunk, .ref b_times, .int x_t_asked, .ref b_whoBore, .ref b_gives, .ref b_best, .ref b_holds, .ref b_refused, .ref b_sums, .ref b_image, .ref b_isKept])), (a_lucky, .inl (cI, 5, .inl f_lucky))]) (st := []) rfl rfl (by decide) (rr_S B (c_X8_power l D cI cZ (90 + (Int32.toInt64 (f_lucky (Int32.toNatClampNeg v1)))) v2 hq_46) gX8_home_X8_power rfl rfl rfl (N := 2) rfl (by decide +kernel) ⟨Nat.le_of_ble_eq_true rfl, Nat.le_of_ble_eq_true rfl⟩ rfl dX8_home_46 (Nat.le_of_ble_eq_true rfl) ⟨Nat.le_of_ble_eq_true rfl, Nat.le_of_ble_eq_true rfl⟩) (ws' := [(a_t, .inr (8, [.ref b_may, .ref b_voyage, .ref a_lucky, .ref b_worths, .ref b_ranks, .int x_t_signs, .ref b_pad, .int x_t_day, .int x_t_reason, .ref b_bears, .ref b_due, .ref b_borneBy, .ref b_gone, .ref b_sunk, .ref b_times, .int x_t_asked, .ref b_whoBore, .ref b_gives, .ref b_best, .ref b_holds, .ref b_refused, .ref b_sums, .ref b_image, .ref b_isKept])), (a_lucky, .inl (cI, 5, .inl f_lucky))]) rfl ?_
        refine ww_lstore B dX8_home_49 (lv' := [(4, .long q_46), (0, .ref a_t), (1, .int v1), (2, .int v2), (3, .int v3)]) (by decide) rfl ?_
        refine ww_ldc2 B (v := 100) (by decide +kernel) dX8_home_51 ?_
        refine ww_iload_n B dX8_home_54 3 rfl ?_
        obtain ⟨q_55, hq_55, h⟩ := og_b h
        refine ww_cl0 B (k' := 0) (n' := 0) rfl rfl [] [0, 1] (wr := [(a_t, .inr (8, [.ref b_may, .ref b_voyage, .ref a_lucky, .ref b_worths, .ref b_ranks, .int x_t_signs, .ref b_pad, .int x_t_day, .int x_t_reason, .ref b_bears, .ref b_due, .ref b_borneBy, .ref b_gone, .ref b_sunk, .ref b_times, .int x_t_asked, .ref b_whoBore, .ref b_gives, .ref b_best, .ref b_holds, .ref b_refused, .ref b_sums, .ref b_image, .ref b_isKept])), (a_lucky, .inl (cI, 5, .inl f_lucky))]) (st := []) rfl rfl (by decide) (rr_S B (c_X8_power l D cI cZ 100 v2 hq_55) gX8_home_X8_power rfl rfl rfl (N := 2) rfl (by decide +kernel) ⟨Nat.le_of_ble_eq_true rfl, Nat.le_of_ble_eq_true rfl⟩ rfl dX8_home_55 (Nat.le_of_ble_eq_true rfl) ⟨Nat.le_of_ble_eq_true rfl, Nat.le_of_ble_eq_true rfl⟩) (ws' := [(a_t, .inr (8, [.ref b_may, .ref b_voyage, .ref a_lucky, .ref b_worths, .ref b_ranks, .int x_t_signs, .ref b_pad, .int x_t_day, .int x_t_reason, .ref b_bears, .ref b_due, .ref b_borneBy, .ref b_gone, .ref b_sunk, .ref b_times, .int x_t_asked, .ref b_whoBore, .ref b_gives, .ref b_best, .ref b_holds, .ref b_refused, .ref b_sums, .ref b_image, .ref b_isKept])), (a_lucky, .inl (cI, 5, .inl f_lucky))]) rfl ?_
        refine ww_lstore B dX8_home_58 (lv' := [(6, .long q_55), (4, .long q_46), (0, .ref a_t), (1, .int v1), (2, .int v2), (3, .int v3)]) (by decide) rfl ?_
        refine ww_lload B dX8_home_60 1 rfl ?_
        refine ww_lstore B dX8_home_62 (lv' := [(8, .long q_46), (6, .long q_55), (4, .long q_46), (0, .ref a_t), (1, .int v1), (2, .int v2), (3, .int v3)]) (by decide) rfl ?_
        refine ww_lload B dX8_home_64 1 rfl ?_
        refine ww_lstore B dX8_home_66 (lv' := [(10, .long q_55), (8, .long q_46), (6, .long q_55), (4, .long q_46), (0, .ref a_t), (1, .int v1), (2, .int v2), (3, .int v3)]) (by decide) rfl ?_
        refine ww_lsel (lv' := [(3, .int v3), (4, .long q_46), (6, .long q_55), (8, .long q_46), (10, .long q_55)]) [7, 3, 2, 1, 0] rfl ?_
        exact cut_68 _ _ _ _ _ _ h
      · replace h := og_t c_27 h
        refine ww_ldc2 B (v := (-1000000000000000002)) (by decide +kernel) dX8_home_30 ?_
        exact ww_lret B hA hQ hr dX8_home_33 () [0, 1] rfl (by decide) (og_s h).symm
  · replace h := og_t c_4 h
    refine ww_ldc2 B (v := (-1000000000000000001)) (by decide +kernel) dX8_home_7 ?_
    exact ww_lret B hA hQ hr dX8_home_10 () [0, 1] rfl (by decide) (og_s h).symm
noncomputable def m_X8_isHull (v0 : Int32) : Option Int32 := ogb (m_X8_in v0 0 5) (fun q_3 => ogy (q_3 = 0 ∨ q_3 = 1) (some q_3))
set_option maxHeartbeats 4000000 in
set_option maxRecDepth 100000 in
theorem c_X8_isHull (l : Launch) (D : va_G) (cI cZ : ClassId) (v0 : Int32) {res : Int32} (h : m_X8_isHull v0 = some res) : CT l yX8_isHull wsX8_isHull ({ frames := 1, cells := 0, slots := 0, locals := 22 } : Room) D cI cZ [.int v0] [] (QI D [] (fun (r : Int32) (_ : Unit) => r = res) (fun (u : Unit) => [])) 0 0 := by
  have h : (ogb (m_X8_in v0 0 5) (fun q_3 => ogy (q_3 = 0 ∨ q_3 = 1) (some q_3)) : Option Int32) = some res := h
  refine ct_entry (cc := cX8_isHull) (nl := 1) (ret := (some .boolean)) (own := RX8) (lv0 := [(0, .int v0)]) (by decide) rfl rfl (Nat.le_of_ble_eq_true rfl) rfl ?_
  intro p e s m args below meth c A Q hA hQ hr hnm B
  refine ww_iload_n B dX8_isHull_0 0 rfl ?_
  refine ww_iconst B dX8_isHull_1 (v := 0) (by decide) ?_
  refine ww_iconst B dX8_isHull_2 (v := 5) (by decide) ?_
  obtain ⟨q_3, hq_3, h⟩ := og_b h
  refine ww_ci0 B (k' := 0) (n' := 0) rfl rfl [] [] (wr := []) (st := []) rfl rfl (by decide) (rr_S B (c_X8_in l D cI cZ v0 0 5 hq_3) gX8_isHull_X8_in rfl rfl rfl (N := 3) rfl (by decide +kernel) ⟨Nat.le_of_ble_eq_true rfl, Nat.le_of_ble_eq_true rfl⟩ rfl dX8_isHull_3 (Nat.le_of_ble_eq_true rfl) ⟨Nat.le_of_ble_eq_true rfl, Nat.le_of_ble_eq_true rfl⟩) (ws' := []) rfl ?_
  obtain ⟨z_6, h⟩ := og_y h
  exact ww_zret B hA hQ hr z_6 dX8_isHull_6 () [] rfl (by decide) (og_s h).symm
noncomputable def m_X8_hull_59 (v1 : Int32) (v2 : Int32) (v3 : Int32) (s0 : Int32) (f_may : (Nat → Int32)) (f_voyage : (Nat → Int32)) : Option (Int32 × ((Nat → Int32) × (Nat → Int32))) := if v2 = 0 then (ogi v1 6 (some (s0, ((upd f_may (Int32.toNatClampNeg v1) v3), f_voyage)))) else (ogi v1 6 (some (s0, (f_may, (upd f_voyage (Int32.toNatClampNeg v1) v3)))))
noncomputable def m_X8_hull_31 (v1 : Int32) (v2 : Int32) (v3 : Int32) (s0 : Int32) (s1 : Int32) (s2 : Int32) (f_may : (Nat → Int32)) (f_voyage : (Nat → Int32)) : Option (Int32 × ((Nat → Int32) × (Nat → Int32))) := ogb (m_X8_in s0 s1 s2) (fun q_31 => if q_31 = 0 then (some ((-2), (f_may, f_voyage))) else (if v2 = 0 then (ogi v1 6 ((m_X8_hull_59 v1 v2 v3 (f_may (Int32.toNatClampNeg v1)) f_may f_voyage))) else (ogi v1 6 ((m_X8_hull_59 v1 v2 v3 (f_voyage (Int32.toNatClampNeg v1)) f_may f_voyage)))))
noncomputable def m_X8_hull (f_may : (Nat → Int32)) (f_voyage : (Nat → Int32)) (v1 : Int32) (v2 : Int32) (v3 : Int32) : Option (Int32 × ((Nat → Int32) × (Nat → Int32))) := ogb (m_X8_isHull v1) (fun q_1 => if q_1 = 0 then (some ((-1), (f_may, f_voyage))) else (ogb (m_X8_in v2 0 1) (fun q_12 => if q_12 = 0 then (some ((-2), (f_may, f_voyage))) else (if v2 = 0 then ((m_X8_hull_31 v1 v2 v3 v3 0 31 f_may f_voyage)) else ((m_X8_hull_31 v1 v2 v3 v3 0 9 f_may f_voyage))))))
set_option maxHeartbeats 4000000 in
set_option maxRecDepth 100000 in
theorem c_X8_hull (l : Launch) (D : va_G) (cI cZ : ClassId) (a_t a_may a_voyage b_lucky b_worths b_ranks b_pad b_bears b_due b_borneBy b_gone b_sunk b_times b_whoBore b_gives b_best b_holds b_refused b_sums b_image b_isKept : Nat) (f_may : (Nat → Int32)) (f_voyage : (Nat → Int32)) (x_t_signs : Int32) (x_t_day : Int32) (x_t_reason : Int32) (x_t_asked : Int32) (v1 : Int32) (v2 : Int32) (v3 : Int32) {res : (Int32 × ((Nat → Int32) × (Nat → Int32)))} (h : m_X8_hull f_may f_voyage v1 v2 v3 = some res) : CT l yX8_hull wsX8_hull ({ frames := 2, cells := 0, slots := 0, locals := 42 } : Room) D cI cZ [.ref a_t, .int v1, .int v2, .int v3] [(a_t, .inr (8, [.ref a_may, .ref a_voyage, .ref b_lucky, .ref b_worths, .ref b_ranks, .int x_t_signs, .ref b_pad, .int x_t_day, .int x_t_reason, .ref b_bears, .ref b_due, .ref b_borneBy, .ref b_gone, .ref b_sunk, .ref b_times, .int x_t_asked, .ref b_whoBore, .ref b_gives, .ref b_best, .ref b_holds, .ref b_refused, .ref b_sums, .ref b_image, .ref b_isKept])), (a_may, .inl (cI, 6, .inl f_may)), (a_voyage, .inl (cI, 6, .inl f_voyage))] (QI D [(a_t, .inr (8, [.ref a_may, .ref a_voyage, .ref b_lucky, .ref b_worths, .ref b_ranks, .int x_t_signs, .ref b_pad, .int x_t_day, .int x_t_reason, .ref b_bears, .ref b_due, .ref b_borneBy, .ref b_gone, .ref b_sunk, .ref b_times, .int x_t_asked, .ref b_whoBore, .ref b_gives, .ref b_best, .ref b_holds, .ref b_refused, .ref b_sums, .ref b_image, .ref b_isKept])), (a_may, .inl (cI, 6, .inl f_may)), (a_voyage, .inl (cI, 6, .inl f_voyage))] (fun (r : Int32) (u : (Nat → Int32) × (Nat → Int32)) => r = res.1 ∧ u = res.2) (fun (u : (Nat → Int32) × (Nat → Int32)) => [(a_t, .inr (8, [.ref a_may, .ref a_voyage, .ref b_lucky, .ref b_worths, .ref b_ranks, .int x_t_signs, .ref b_pad, .int x_t_day, .int x_t_reason, .ref b_bears, .ref b_due, .ref b_borneBy, .ref b_gone, .ref b_sunk, .ref b_times, .int x_t_asked, .ref b_whoBore, .ref b_gives, .ref b_best, .ref b_holds, .ref b_refused, .ref b_sums, .ref b_image, .ref b_isKept])), (a_may, .inl (cI, 6, .inl u.1)), (a_voyage, .inl (cI, 6, .inl u.2))])) 0 0 := by
  have h : (ogb (m_X8_isHull v1) (fun q_1 => if q_1 = 0 then (some ((-1), (f_may, f_voyage))) else (ogb (m_X8_in v2 0 1) (fun q_12 => if q_12 = 0 then (some ((-2), (f_may, f_voyage))) else (if v2 = 0 then ((m_X8_hull_31 v1 v2 v3 v3 0 31 f_may f_voyage)) else ((m_X8_hull_31 v1 v2 v3 v3 0 9 f_may f_voyage)))))) : Option (Int32 × ((Nat → Int32) × (Nat → Int32)))) = some res := h
  refine ct_entry (cc := cX8_hull) (nl := 5) (ret := (some .int)) (own := RX8) (lv0 := [(0, .ref a_t), (1, .int v1), (2, .int v2), (3, .int v3)]) (by decide) rfl rfl (Nat.le_of_ble_eq_true rfl) rfl ?_
  intro p e s m args below meth c A Q hA hQ hr hnm B
  have iX8 : ∀ w ∈ wsX80, w ∈ wsX8_hull := by decide +kernel
  have cut_59 : ∀ (v1 : Int32) (v2 : Int32) (v3 : Int32) (s0 : Int32) (f_may : (Nat → Int32)) (f_voyage : (Nat → Int32)), m_X8_hull_59 v1 v2 v3 s0 f_may f_voyage = some res → WW p l e (headSpec wsX8_hull ({ frames := 2, cells := 0, slots := 0, locals := 42 } : Room)).room s m args below meth c D A 5 0 0 Q [(a_t, .inr (8, [.ref a_may, .ref a_voyage, .ref b_lucky, .ref b_worths, .ref b_ranks, .int x_t_signs, .ref b_pad, .int x_t_day, .int x_t_reason, .ref b_bears, .ref b_due, .ref b_borneBy, .ref b_gone, .ref b_sunk, .ref b_times, .int x_t_asked, .ref b_whoBore, .ref b_gives, .ref b_best, .ref b_holds, .ref b_refused, .ref b_sums, .ref b_image, .ref b_isKept])), (a_may, .inl (cI, 6, .inl f_may)), (a_voyage, .inl (cI, 6, .inl f_voyage))] [(0, .ref a_t), (1, .int v1), (2, .int v2), (3, .int v3)] [.int s0] 59 := by
    intro v1 v2 v3 s0 f_may f_voyage h
    replace h : (if v2 = 0 then (ogi v1 6 (some (s0, ((upd f_may (Int32.toNatClampNeg v1) v3), f_voyage)))) else (ogi v1 6 (some (s0, (f_may, (upd f_voyage (Int32.toNatClampNeg v1) v3))))) : Option (Int32 × ((Nat → Int32) × (Nat → Int32)))) = some res := h
    refine ww_istore B dX8_hull_59 (lv' := [(4, .int s0), (0, .ref a_t), (1, .int v1), (2, .int v2), (3, .int v3)]) (by decide) rfl ?_
    refine ww_iload_n B dX8_hull_61 3 rfl ?_
    refine ww_if_ne B 75 dX8_hull_62 (by decide) (fun c_62 => ?_) (fun c_62 => ?_)
    · replace h := og_f c_62 h
      refine ww_aload_n B dX8_hull_75 1 rfl ?_
      refine ww_get (ci := 8) (T := TX8) (C := RX8) (N := 24) B iX8 0 rfl rfl 1 (by decide) (by decide +kernel) rfl rfl dX8_hull_76 ?_
      refine ww_iload_n B dX8_hull_79 2 rfl ?_
      refine ww_iload_n B dX8_hull_80 4 rfl ?_
      obtain ⟨i_81, h⟩ := og_i h
      refine ww_iast B 2 rfl i_81 dX8_hull_81 (ws' := [(a_t, .inr (8, [.ref a_may, .ref a_voyage, .ref b_lucky, .ref b_worths, .ref b_ranks, .int x_t_signs, .ref b_pad, .int x_t_day, .int x_t_reason, .ref b_bears, .ref b_due, .ref b_borneBy, .ref b_gone, .ref b_sunk, .ref b_times, .int x_t_asked, .ref b_whoBore, .ref b_gives, .ref b_best, .ref b_holds, .ref b_refused, .ref b_sums, .ref b_image, .ref b_isKept])), (a_may, .inl (cI, 6, .inl f_may)), (a_voyage, .inl (cI, 6, .inl (upd f_voyage (Int32.toNatClampNeg v1) v3)))]) rfl ?_
      refine ww_iload B dX8_hull_82 0 rfl ?_
      exact ww_iret B hA hQ hr dX8_hull_84 (f_may, (upd f_voyage (Int32.toNatClampNeg v1) v3)) [0, 1, 2] rfl (by decide) (og_p h)
    · replace h := og_t c_62 h
      refine ww_aload_n B dX8_hull_65 1 rfl ?_
      refine ww_get (ci := 8) (T := TX8) (C := RX8) (N := 24) B iX8 0 rfl rfl 0 (by decide) (by decide +kernel) rfl rfl dX8_hull_66 ?_
      refine ww_iload_n B dX8_hull_69 2 rfl ?_
      refine ww_iload_n B dX8_hull_70 4 rfl ?_
      obtain ⟨i_71, h⟩ := og_i h
      refine ww_iast B 1 rfl i_71 dX8_hull_71 (ws' := [(a_t, .inr (8, [.ref a_may, .ref a_voyage, .ref b_lucky, .ref b_worths, .ref b_ranks, .int x_t_signs, .ref b_pad, .int x_t_day, .int x_t_reason, .ref b_bears, .ref b_due, .ref b_borneBy, .ref b_gone, .ref b_sunk, .ref b_times, .int x_t_asked, .ref b_whoBore, .ref b_gives, .ref b_best, .ref b_holds, .ref b_refused, .ref b_sums, .ref b_image, .ref b_isKept])), (a_may, .inl (cI, 6, .inl (upd f_may (Int32.toNatClampNeg v1) v3))), (a_voyage, .inl (cI, 6, .inl f_voyage))]) rfl ?_
      refine ww_goto B 82 dX8_hull_72 (by decide) ?_
      refine ww_iload B dX8_hull_82 0 rfl ?_
      exact ww_iret B hA hQ hr dX8_hull_84 ((upd f_may (Int32.toNatClampNeg v1) v3), f_voyage) [0, 1, 2] rfl (by decide) (og_p h)
  have cut_31 : ∀ (v1 : Int32) (v2 : Int32) (v3 : Int32) (s0 : Int32) (s1 : Int32) (s2 : Int32) (f_may : (Nat → Int32)) (f_voyage : (Nat → Int32)), m_X8_hull_31 v1 v2 v3 s0 s1 s2 f_may f_voyage = some res → WW p l e (headSpec wsX8_hull ({ frames := 2, cells := 0, slots := 0, locals := 42 } : Room)).room s m args below meth c D A 5 0 0 Q [(a_t, .inr (8, [.ref a_may, .ref a_voyage, .ref b_lucky, .ref b_worths, .ref b_ranks, .int x_t_signs, .ref b_pad, .int x_t_day, .int x_t_reason, .ref b_bears, .ref b_due, .ref b_borneBy, .ref b_gone, .ref b_sunk, .ref b_times, .int x_t_asked, .ref b_whoBore, .ref b_gives, .ref b_best, .ref b_holds, .ref b_refused, .ref b_sums, .ref b_image, .ref b_isKept])), (a_may, .inl (cI, 6, .inl f_may)), (a_voyage, .inl (cI, 6, .inl f_voyage))] [(0, .ref a_t), (1, .int v1), (2, .int v2), (3, .int v3)] [.int s2, .int s1, .int s0] 31 := by
    intro v1 v2 v3 s0 s1 s2 f_may f_voyage h
    replace h : (ogb (m_X8_in s0 s1 s2) (fun q_31 => if q_31 = 0 then (some ((-2), (f_may, f_voyage))) else (if v2 = 0 then (ogi v1 6 ((m_X8_hull_59 v1 v2 v3 (f_may (Int32.toNatClampNeg v1)) f_may f_voyage))) else (ogi v1 6 ((m_X8_hull_59 v1 v2 v3 (f_voyage (Int32.toNatClampNeg v1)) f_may f_voyage))))) : Option (Int32 × ((Nat → Int32) × (Nat → Int32)))) = some res := h
    obtain ⟨q_31, hq_31, h⟩ := og_b h
    refine ww_ci0 B (k' := 0) (n' := 0) rfl rfl [] [0, 1, 2] (wr := [(a_t, .inr (8, [.ref a_may, .ref a_voyage, .ref b_lucky, .ref b_worths, .ref b_ranks, .int x_t_signs, .ref b_pad, .int x_t_day, .int x_t_reason, .ref b_bears, .ref b_due, .ref b_borneBy, .ref b_gone, .ref b_sunk, .ref b_times, .int x_t_asked, .ref b_whoBore, .ref b_gives, .ref b_best, .ref b_holds, .ref b_refused, .ref b_sums, .ref b_image, .ref b_isKept])), (a_may, .inl (cI, 6, .inl f_may)), (a_voyage, .inl (cI, 6, .inl f_voyage))]) (st := []) rfl rfl (by decide) (rr_S B (c_X8_in l D cI cZ s0 s1 s2 hq_31) gX8_hull_X8_in rfl rfl rfl (N := 3) rfl (by decide +kernel) ⟨Nat.le_of_ble_eq_true rfl, Nat.le_of_ble_eq_true rfl⟩ rfl dX8_hull_31 (Nat.le_of_ble_eq_true rfl) ⟨Nat.le_of_ble_eq_true rfl, Nat.le_of_ble_eq_true rfl⟩) (ws' := [(a_t, .inr (8, [.ref a_may, .ref a_voyage, .ref b_lucky, .ref b_worths, .ref b_ranks, .int x_t_signs, .ref b_pad, .int x_t_day, .int x_t_reason, .ref b_bears, .ref b_due, .ref b_borneBy, .ref b_gone, .ref b_sunk, .ref b_times, .int x_t_asked, .ref b_whoBore, .ref b_gives, .ref b_best, .ref b_holds, .ref b_refused, .ref b_sums, .ref b_image, .ref b_isKept])), (a_may, .inl (cI, 6, .inl f_may)), (a_voyage, .inl (cI, 6, .inl f_voyage))]) rfl ?_
    refine ww_if_ne B 40 dX8_hull_34 (by decide) (fun c_34 => ?_) (fun c_34 => ?_)
    · replace h := og_f c_34 h
      refine ww_iload_n B dX8_hull_40 2 rfl ?_
      refine ww_if_ne B 53 dX8_hull_41 (by decide) (fun c_41 => ?_) (fun c_41 => ?_)
      · replace h := og_f c_41 h
        refine ww_aload_n B dX8_hull_53 0 rfl ?_
        refine ww_get (ci := 8) (T := TX8) (C := RX8) (N := 24) B iX8 0 rfl rfl 1 (by decide) (by decide +kernel) rfl rfl dX8_hull_54 ?_
        refine ww_iload_n B dX8_hull_57 1 rfl ?_
        obtain ⟨i_58, h⟩ := og_i h
        refine ww_iald B 2 rfl i_58 dX8_hull_58 ?_
        exact cut_59 _ _ _ _ _ _ h
      · replace h := og_t c_41 h
        refine ww_aload_n B dX8_hull_44 0 rfl ?_
        refine ww_get (ci := 8) (T := TX8) (C := RX8) (N := 24) B iX8 0 rfl rfl 0 (by decide) (by decide +kernel) rfl rfl dX8_hull_45 ?_
        refine ww_iload_n B dX8_hull_48 1 rfl ?_
        obtain ⟨i_49, h⟩ := og_i h
        refine ww_iald B 1 rfl i_49 dX8_hull_49 ?_
        refine ww_goto B 59 dX8_hull_50 (by decide) ?_
        exact cut_59 _ _ _ _ _ _ h
    · replace h := og_t c_34 h
      refine ww_bipush B dX8_hull_37 (v := (-2)) (by decide) ?_
      exact ww_iret B hA hQ hr dX8_hull_39 (f_may, f_voyage) [0, 1, 2] rfl (by decide) (og_p h)
  refine ww_iload_n B dX8_hull_0 1 rfl ?_
  obtain ⟨q_1, hq_1, h⟩ := og_b h
  refine ww_ci0 B (k' := 0) (n' := 0) rfl rfl [] [0, 1, 2] (wr := [(a_t, .inr (8, [.ref a_may, .ref a_voyage, .ref b_lucky, .ref b_worths, .ref b_ranks, .int x_t_signs, .ref b_pad, .int x_t_day, .int x_t_reason, .ref b_bears, .ref b_due, .ref b_borneBy, .ref b_gone, .ref b_sunk, .ref b_times, .int x_t_asked, .ref b_whoBore, .ref b_gives, .ref b_best, .ref b_holds, .ref b_refused, .ref b_sums, .ref b_image, .ref b_isKept])), (a_may, .inl (cI, 6, .inl f_may)), (a_voyage, .inl (cI, 6, .inl f_voyage))]) (st := []) rfl rfl (by decide) (rr_S B (c_X8_isHull l D cI cZ v1 hq_1) gX8_hull_X8_isHull rfl rfl rfl (N := 1) rfl (by decide +kernel) ⟨Nat.le_of_ble_eq_true rfl, Nat.le_of_ble_eq_true rfl⟩ rfl dX8_hull_1 (Nat.le_of_ble_eq_true rfl) ⟨Nat.le_of_ble_eq_true rfl, Nat.le_of_ble_eq_true rfl⟩) (ws' := [(a_t, .inr (8, [.ref a_may, .ref a_voyage, .ref b_lucky, .ref b_worths, .ref b_ranks, .int x_t_signs, .ref b_pad, .int x_t_day, .int x_t_reason, .ref b_bears, .ref b_due, .ref b_borneBy, .ref b_gone, .ref b_sunk, .ref b_times, .int x_t_asked, .ref b_whoBore, .ref b_gives, .ref b_best, .ref b_holds, .ref b_refused, .ref b_sums, .ref b_image, .ref b_isKept])), (a_may, .inl (cI, 6, .inl f_may)), (a_voyage, .inl (cI, 6, .inl f_voyage))]) rfl ?_
  refine ww_if_ne B 9 dX8_hull_4 (by decide) (fun c_4 => ?_) (fun c_4 => ?_)
  · replace h := og_f c_4 h
    refine ww_iload_n B dX8_hull_9 2 rfl ?_
    refine ww_iconst B dX8_hull_10 (v := 0) (by decide) ?_
    refine ww_iconst B dX8_hull_11 (v := 1) (by decide) ?_
    obtain ⟨q_12, hq_12, h⟩ := og_b h
    refine ww_ci0 B (k' := 0) (n' := 0) rfl rfl [] [0, 1, 2] (wr := [(a_t, .inr (8, [.ref a_may, .ref a_voyage, .ref b_lucky, .ref b_worths, .ref b_ranks, .int x_t_signs, .ref b_pad, .int x_t_day, .int x_t_reason, .ref b_bears, .ref b_due, .ref b_borneBy, .ref b_gone, .ref b_sunk, .ref b_times, .int x_t_asked, .ref b_whoBore, .ref b_gives, .ref b_best, .ref b_holds, .ref b_refused, .ref b_sums, .ref b_image, .ref b_isKept])), (a_may, .inl (cI, 6, .inl f_may)), (a_voyage, .inl (cI, 6, .inl f_voyage))]) (st := []) rfl rfl (by decide) (rr_S B (c_X8_in l D cI cZ v2 0 1 hq_12) gX8_hull_X8_in rfl rfl rfl (N := 3) rfl (by decide +kernel) ⟨Nat.le_of_ble_eq_true rfl, Nat.le_of_ble_eq_true rfl⟩ rfl dX8_hull_12 (Nat.le_of_ble_eq_true rfl) ⟨Nat.le_of_ble_eq_true rfl, Nat.le_of_ble_eq_true rfl⟩) (ws' := [(a_t, .inr (8, [.ref a_may, .ref a_voyage, .ref b_lucky, .ref b_worths, .ref b_ranks, .int x_t_signs, .ref b_pad, .int x_t_day, .int x_t_reason, .ref b_bears, .ref b_due, .ref b_borneBy, .ref b_gone, .ref b_sunk, .ref b_times, .int x_t_asked, .ref b_whoBore, .ref b_gives, .ref b_best, .ref b_holds, .ref b_refused, .ref b_sums, .ref b_image, .ref b_isKept])), (a_may, .inl (cI, 6, .inl f_may)), (a_voyage, .inl (cI, 6, .inl f_voyage))]) rfl ?_
    refine ww_if_eq B 37 dX8_hull_15 (by decide) (fun c_15 => ?_) (fun c_15 => ?_)
    · replace h := og_t c_15 h
      refine ww_bipush B dX8_hull_37 (v := (-2)) (by decide) ?_
      exact ww_iret B hA hQ hr dX8_hull_39 (f_may, f_voyage) [0, 1, 2] rfl (by decide) (og_p h)
    · replace h := og_f c_15 h
      refine ww_iload_n B dX8_hull_18 3 rfl ?_
      refine ww_iconst B dX8_hull_19 (v := 0) (by decide) ?_
      refine ww_iload_n B dX8_hull_20 2 rfl ?_
      refine ww_if_ne B 29 dX8_hull_21 (by decide) (fun c_21 => ?_) (fun c_21 => ?_)
      · replace h := og_f c_21 h
        refine ww_bipush B dX8_hull_29 (v := 9) (by decide) ?_
        exact cut_31 _ _ _ _ _ _ _ _ h
      · replace h := og_t c_21 h
        refine ww_bipush B dX8_hull_24 (v := 31) (by decide) ?_
        refine ww_goto B 31 dX8_hull_26 (by decide) ?_
        exact cut_31 _ _ _ _ _ _ _ _ h
  · replace h := og_t c_4 h
    refine ww_iconst B dX8_hull_7 (v := (-1)) (by decide) ?_
    exact ww_iret B hA hQ hr dX8_hull_8 (f_may, f_voyage) [0, 1, 2] rfl (by decide) (og_p h)
noncomputable def m_X8_image_111b (k111 : Int32 → Int32 → Int32 → (Nat → Int32) → (Nat → Int32) → Option (Int32 × ((Nat → Int32) × (Nat → Int32)))) (f_lucky : (Nat → Int32)) (f_may : (Nat → Int32)) (f_ranks : (Nat → Int32)) (f_voyage : (Nat → Int32)) (f_worths : (Nat → Int32)) (v1 : Int32) (v2 : Int32) (v3 : Int32) (f_image : (Nat → Int32)) (f_isKept : (Nat → Int32)) : Option (Int32 × ((Nat → Int32) × (Nat → Int32))) := if 30 ≤ v3 then (ogi v1 2 (some (1, (f_image, (upd f_isKept (Int32.toNatClampNeg v1) (vp_nar .boolean 1)))))) else (ogi v3 30 (ogi ((v2 + 22) + v3) 104 (ogl (v3 + 1) (fun (v3_134 : Int32) => (k111 v1 v2 v3_134 (upd f_image (Int32.toNatClampNeg ((v2 + 22) + v3)) (f_worths (Int32.toNatClampNeg v3))) f_isKept)))))
noncomputable def m_X8_image_111 (f_lucky : (Nat → Int32)) (f_may : (Nat → Int32)) (f_ranks : (Nat → Int32)) (f_voyage : (Nat → Int32)) (f_worths : (Nat → Int32)) (fuel : Nat) : Int32 → Int32 → Int32 → (Nat → Int32) → (Nat → Int32) → Option (Int32 × ((Nat → Int32) × (Nat → Int32))) := Nat.rec (fun _ _ _ _ _ => none) (fun _ k111 => m_X8_image_111b k111 f_lucky f_may f_ranks f_voyage f_worths) fuel
noncomputable def m_X8_image_64b (k64 : Int32 → Int32 → Int32 → (Nat → Int32) → (Nat → Int32) → Option (Int32 × ((Nat → Int32) × (Nat → Int32)))) (f_lucky : (Nat → Int32)) (f_may : (Nat → Int32)) (f_ranks : (Nat → Int32)) (f_voyage : (Nat → Int32)) (f_worths : (Nat → Int32)) (v1 : Int32) (v2 : Int32) (v3 : Int32) (f_image : (Nat → Int32)) (f_isKept : (Nat → Int32)) : Option (Int32 × ((Nat → Int32) × (Nat → Int32))) := if 5 ≤ v3 then ((m_X8_image_111 f_lucky f_may f_ranks f_voyage f_worths 1000000 v1 v2 0 f_image f_isKept)) else (ogi v3 5 (ogi ((v2 + 12) + v3) 104 (ogi v3 5 (ogi ((v2 + 17) + v3) 104 (ogl (v3 + 1) (fun (v3_103 : Int32) => (k64 v1 v2 v3_103 (upd (upd f_image (Int32.toNatClampNeg ((v2 + 12) + v3)) (f_lucky (Int32.toNatClampNeg v3))) (Int32.toNatClampNeg ((v2 + 17) + v3)) (f_ranks (Int32.toNatClampNeg v3))) f_isKept)))))))
noncomputable def m_X8_image_64 (f_lucky : (Nat → Int32)) (f_may : (Nat → Int32)) (f_ranks : (Nat → Int32)) (f_voyage : (Nat → Int32)) (f_worths : (Nat → Int32)) (fuel : Nat) : Int32 → Int32 → Int32 → (Nat → Int32) → (Nat → Int32) → Option (Int32 × ((Nat → Int32) × (Nat → Int32))) := Nat.rec (fun _ _ _ _ _ => none) (fun _ k64 => m_X8_image_64b k64 f_lucky f_may f_ranks f_voyage f_worths) fuel
noncomputable def m_X8_image_19b (k19 : Int32 → Int32 → Int32 → (Nat → Int32) → (Nat → Int32) → Option (Int32 × ((Nat → Int32) × (Nat → Int32)))) (f_lucky : (Nat → Int32)) (f_may : (Nat → Int32)) (f_ranks : (Nat → Int32)) (f_voyage : (Nat → Int32)) (f_worths : (Nat → Int32)) (v1 : Int32) (v2 : Int32) (v3 : Int32) (f_image : (Nat → Int32)) (f_isKept : (Nat → Int32)) : Option (Int32 × ((Nat → Int32) × (Nat → Int32))) := if 6 ≤ v3 then ((m_X8_image_64 f_lucky f_may f_ranks f_voyage f_worths 1000000 v1 v2 0 f_image f_isKept)) else (ogi v3 6 (ogi (v2 + v3) 104 (ogi v3 6 (ogi ((v2 + 6) + v3) 104 (ogl (v3 + 1) (fun (v3_56 : Int32) => (k19 v1 v2 v3_56 (upd (upd f_image (Int32.toNatClampNeg (v2 + v3)) (f_may (Int32.toNatClampNeg v3))) (Int32.toNatClampNeg ((v2 + 6) + v3)) (f_voyage (Int32.toNatClampNeg v3))) f_isKept)))))))
noncomputable def m_X8_image_19 (f_lucky : (Nat → Int32)) (f_may : (Nat → Int32)) (f_ranks : (Nat → Int32)) (f_voyage : (Nat → Int32)) (f_worths : (Nat → Int32)) (fuel : Nat) : Int32 → Int32 → Int32 → (Nat → Int32) → (Nat → Int32) → Option (Int32 × ((Nat → Int32) × (Nat → Int32))) := Nat.rec (fun _ _ _ _ _ => none) (fun _ k19 => m_X8_image_19b k19 f_lucky f_may f_ranks f_voyage f_worths) fuel
noncomputable def m_X8_image (f_lucky : (Nat → Int32)) (f_may : (Nat → Int32)) (f_ranks : (Nat → Int32)) (f_voyage : (Nat → Int32)) (f_worths : (Nat → Int32)) (f_image : (Nat → Int32)) (f_isKept : (Nat → Int32)) (v1 : Int32) : Option (Int32 × ((Nat → Int32) × (Nat → Int32))) := ogb (m_X8_in v1 0 1) (fun q_3 => if q_3 = 0 then (some ((-2), (f_image, f_isKept))) else (ogl (52 * v1) (fun (v2_16 : Int32) => (m_X8_image_19 f_lucky f_may f_ranks f_voyage f_worths 1000000 v1 v2_16 0 f_image f_isKept))))
set_option maxHeartbeats 4000000 in
set_option maxRecDepth 100000 in
theorem c_X8_image (l : Launch) (D : va_G) (cI cZ : ClassId) (a_t a_image a_isKept a_lucky a_may a_ranks a_voyage a_worths b_pad b_bears b_due b_borneBy b_gone b_sunk b_times b_whoBore b_gives b_best b_holds b_refused b_sums : Nat) (f_image : (Nat → Int32)) (f_isKept : (Nat → Int32)) (f_lucky : (Nat → Int32)) (f_may : (Nat → Int32)) (f_ranks : (Nat → Int32)) (f_voyage : (Nat → Int32)) (f_worths : (Nat → Int32)) (x_t_signs : Int32) (x_t_day : Int32) (x_t_reason : Int32) (x_t_asked : Int32) (v1 : Int32) {res : (Int32 × ((Nat → Int32) × (Nat → Int32)))} (h : m_X8_image f_lucky f_may f_ranks f_voyage f_worths f_image f_isKept v1 = some res) : CT l yX8_image wsX8_image ({ frames := 1, cells := 0, slots := 0, locals := 22 } : Room) D cI cZ [.ref a_t, .int v1] [(a_t, .inr (8, [.ref a_may, .ref a_voyage, .ref a_lucky, .ref a_worths, .ref a_ranks, .int x_t_signs, .ref b_pad, .int x_t_day, .int x_t_reason, .ref b_bears, .ref b_due, .ref b_borneBy, .ref b_gone, .ref b_sunk, .ref b_times, .int x_t_asked, .ref b_whoBore, .ref b_gives, .ref b_best, .ref b_holds, .ref b_refused, .ref b_sums, .ref a_image, .ref a_isKept])), (a_image, .inl (cI, 104, .inl f_image)), (a_isKept, .inl (cZ, 2, .inl f_isKept)), (a_lucky, .inl (cI, 5, .inl f_lucky)), (a_may, .inl (cI, 6, .inl f_may)), (a_ranks, .inl (cI, 5, .inl f_ranks)), (a_voyage, .inl (cI, 6, .inl f_voyage)), (a_worths, .inl (cI, 30, .inl f_worths))] (QI D [(a_t, .inr (8, [.ref a_may, .ref a_voyage, .ref a_lucky, .ref a_worths, .ref a_ranks, .int x_t_signs, .ref b_pad, .int x_t_day, .int x_t_reason, .ref b_bears, .ref b_due, .ref b_borneBy, .ref b_gone, .ref b_sunk, .ref b_times, .int x_t_asked, .ref b_whoBore, .ref b_gives, .ref b_best, .ref b_holds, .ref b_refused, .ref b_sums, .ref a_image, .ref a_isKept])), (a_image, .inl (cI, 104, .inl f_image)), (a_isKept, .inl (cZ, 2, .inl f_isKept)), (a_lucky, .inl (cI, 5, .inl f_lucky)), (a_may, .inl (cI, 6, .inl f_may)), (a_ranks, .inl (cI, 5, .inl f_ranks)), (a_voyage, .inl (cI, 6, .inl f_voyage)), (a_worths, .inl (cI, 30, .inl f_worths))] (fun (r : Int32) (u : (Nat → Int32) × (Nat → Int32)) => r = res.1 ∧ u = res.2) (fun (u : (Nat → Int32) × (Nat → Int32)) => [(a_t, .inr (8, [.ref a_may, .ref a_voyage, .ref a_lucky, .ref a_worths, .ref a_ranks, .int x_t_signs, .ref b_pad, .int x_t_day, .int x_t_reason, .ref b_bears, .ref b_due, .ref b_borneBy, .ref b_gone, .ref b_sunk, .ref b_times, .int x_t_asked, .ref b_whoBore, .ref b_gives, .ref b_best, .ref b_holds, .ref b_refused, .ref b_sums, .ref a_image, .ref a_isKept])), (a_image, .inl (cI, 104, .inl u.1)), (a_isKept, .inl (cZ, 2, .inl u.2)), (a_lucky, .inl (cI, 5, .inl f_lucky)), (a_may, .inl (cI, 6, .inl f_may)), (a_ranks, .inl (cI, 5, .inl f_ranks)), (a_voyage, .inl (cI, 6, .inl f_voyage)), (a_worths, .inl (cI, 30, .inl f_worths))])) 0 0 := by
  have h : (ogb (m_X8_in v1 0 1) (fun q_3 => if q_3 = 0 then (some ((-2), (f_image, f_isKept))) else (ogl (52 * v1) (fun (v2_16 : Int32) => (m_X8_image_19 f_lucky f_may f_ranks f_voyage f_worths 1000000 v1 v2_16 0 f_image f_isKept)))) : Option (Int32 × ((Nat → Int32) × (Nat → Int32)))) = some res := h
  refine ct_entry (cc := cX8_image) (nl := 4) (ret := (some .int)) (own := RX8) (lv0 := [(0, .ref a_t), (1, .int v1)]) (by decide) rfl rfl (Nat.le_of_ble_eq_true rfl) rfl ?_
  intro p e s m args below meth c A Q hA hQ hr hnm B
  have iX8 : ∀ w ∈ wsX80, w ∈ wsX8_image := by decide +kernel
  have cut_111 : ∀ (fuel : Nat) (v1 : Int32) (v2 : Int32) (v3 : Int32) (f_image : (Nat → Int32)) (f_isKept : (Nat → Int32)), m_X8_image_111 f_lucky f_may f_ranks f_voyage f_worths fuel v1 v2 v3 f_image f_isKept = some res → WW p l e (headSpec wsX8_image ({ frames := 1, cells := 0, slots := 0, locals := 22 } : Room)).room s m args below meth c D A 4 0 0 Q [(a_t, .inr (8, [.ref a_may, .ref a_voyage, .ref a_lucky, .ref a_worths, .ref a_ranks, .int x_t_signs, .ref b_pad, .int x_t_day, .int x_t_reason, .ref b_bears, .ref b_due, .ref b_borneBy, .ref b_gone, .ref b_sunk, .ref b_times, .int x_t_asked, .ref b_whoBore, .ref b_gives, .ref b_best, .ref b_holds, .ref b_refused, .ref b_sums, .ref a_image, .ref a_isKept])), (a_image, .inl (cI, 104, .inl f_image)), (a_isKept, .inl (cZ, 2, .inl f_isKept)), (a_lucky, .inl (cI, 5, .inl f_lucky)), (a_may, .inl (cI, 6, .inl f_may)), (a_ranks, .inl (cI, 5, .inl f_ranks)), (a_voyage, .inl (cI, 6, .inl f_voyage)), (a_worths, .inl (cI, 30, .inl f_worths))] [(0, .ref a_t), (1, .int v1), (2, .int v2), (3, .int v3)] [] 111 := by
    intro fuel_111
    induction fuel_111 with
    | zero => intro v1 v2 v3 f_image f_isKept h; exact og_0 h
    | succ fuel_111 ih_111 =>
      intro v1 v2 v3 f_image f_isKept h
      replace h : (if 30 ≤ v3 then (ogi v1 2 (some (1, (f_image, (upd f_isKept (Int32.toNatClampNeg v1) (vp_nar .boolean 1)))))) else (ogi v3 30 (ogi ((v2 + 22) + v3) 104 (ogl (v3 + 1) (fun (v3_134 : Int32) => ((m_X8_image_111 f_lucky f_may f_ranks f_voyage f_worths fuel_111) v1 v2 v3_134 (upd f_image (Int32.toNatClampNeg ((v2 + 22) + v3)) (f_worths (Int32.toNatClampNeg v3))) f_isKept))))) : Option (Int32 × ((Nat → Int32) × (Nat → Int32)))) = some res := h
      refine ww_iload_n B dX8_image_111 3 rfl ?_
      refine ww_bipush B dX8_image_112 (v := 30) (by decide) ?_
      refine ww_icmp_ge B 140 dX8_image_114 (by decide) (fun c_114 => ?_) (fun c_114 => ?_)
      · replace h := og_t c_114 h
        refine ww_aload_n B dX8_image_140 0 rfl ?_
        refine ww_get (ci := 8) (T := TX8) (C := RX8) (N := 24) B iX8 0 rfl rfl 23 (by decide) (by decide +kernel) rfl rfl dX8_image_141 ?_
        refine ww_iload_n B dX8_image_144 1 rfl ?_
        refine ww_iconst B dX8_image_145 (v := 1) (by decide) ?_
        obtain ⟨i_146, h⟩ := og_i h
        refine ww_zast B 2 rfl i_146 dX8_image_146 (ws' := [(a_t, .inr (8, [.ref a_may, .ref a_voyage, .ref a_lucky, .ref a_worths, .ref a_ranks, .int x_t_signs, .ref b_pad, .int x_t_day, .int x_t_reason, .ref b_bears, .ref b_due, .ref b_borneBy, .ref b_gone, .ref b_sunk, .ref b_times, .int x_t_asked, .ref b_whoBore, .ref b_gives, .ref b_best, .ref b_holds, .ref b_refused, .ref b_sums, .ref a_image, .ref a_isKept])), (a_image, .inl (cI, 104, .inl f_image)), (a_isKept, .inl (cZ, 2, .inl (upd f_isKept (Int32.toNatClampNeg v1) (vp_nar .boolean 1)))), (a_lucky, .inl (cI, 5, .inl f_lucky)), (a_may, .inl (cI, 6, .inl f_may)), (a_ranks, .inl (cI, 5, .inl f_ranks)), (a_voyage, .inl (cI, 6, .inl f_voyage)), (a_worths, .inl (cI, 30, .inl f_worths))]) rfl ?_
        refine ww_iconst B dX8_image_147 (v := 1) (by decide) ?_
        exact ww_iret B hA hQ hr dX8_image_148 (f_image, (upd f_isKept (Int32.toNatClampNeg v1) (vp_nar .boolean 1))) [0, 1, 2, 3, 4, 5, 6, 7] rfl (by decide) (og_p h)
      · replace h := og_f c_114 h
        refine ww_aload_n B dX8_image_117 0 rfl ?_
        refine ww_get (ci := 8) (T := TX8) (C := RX8) (N := 24) B iX8 0 rfl rfl 22 (by decide) (by decide +kernel) rfl rfl dX8_image_118 ?_
        refine ww_iload_n B dX8_image_121 2 rfl ?_
        refine ww_bipush B dX8_image_122 (v := 22) (by decide) ?_
        refine ww_iadd B dX8_image_124 ?_
        refine ww_iload_n B dX8_image_125 3 rfl ?_
        refine ww_iadd B dX8_image_126 ?_
        refine ww_aload_n B dX8_image_127 0 rfl ?_
        refine ww_get (ci := 8) (T := TX8) (C := RX8) (N := 24) B iX8 0 rfl rfl 3 (by decide) (by decide +kernel) rfl rfl dX8_image_128 ?_
        refine ww_iload_n B dX8_image_131 3 rfl ?_
        obtain ⟨i_132, h⟩ := og_i h
        refine ww_iald B 7 rfl i_132 dX8_image_132 ?_
        obtain ⟨i_133, h⟩ := og_i h
        refine ww_iast B 1 rfl i_133 dX8_image_133 (ws' := [(a_t, .inr (8, [.ref a_may, .ref a_voyage, .ref a_lucky, .ref a_worths, .ref a_ranks, .int x_t_signs, .ref b_pad, .int x_t_day, .int x_t_reason, .ref b_bears, .ref b_due, .ref b_borneBy, .ref b_gone, .ref b_sunk, .ref b_times, .int x_t_asked, .ref b_whoBore, .ref b_gives, .ref b_best, .ref b_holds, .ref b_refused, .ref b_sums, .ref a_image, .ref a_isKept])), (a_image, .inl (cI, 104, .inl (upd f_image (Int32.toNatClampNeg ((v2 + 22) + v3)) (f_worths (Int32.toNatClampNeg v3))))), (a_isKept, .inl (cZ, 2, .inl f_isKept)), (a_lucky, .inl (cI, 5, .inl f_lucky)), (a_may, .inl (cI, 6, .inl f_may)), (a_ranks, .inl (cI, 5, .inl f_ranks)), (a_voyage, .inl (cI, 6, .inl f_voyage)), (a_worths, .inl (cI, 30, .inl f_worths))]) rfl ?_
        obtain ⟨v3_134, ev3_134⟩ : ∃ y : Int32, y = (v3 + 1) := ⟨_, rfl⟩
        refine ww_iinc B dX8_image_134 3 rfl (v := v3_134) (by rw [ev3_134]; rfl) (by decide) (lv' := [(3, .int v3_134), (0, .ref a_t), (1, .int v1), (2, .int v2)]) rfl ?_
        replace h := og_l ev3_134 h
        refine ww_goto B 111 dX8_image_137 (by decide) ?_
        refine ww_lsel (lv' := [(0, .ref a_t), (1, .int v1), (2, .int v2), (3, .int v3_134)]) [1, 2, 3, 0] rfl ?_
        exact ih_111 _ _ _ _ _ h
  have cut_64 : ∀ (fuel : Nat) (v1 : Int32) (v2 : Int32) (v3 : Int32) (f_image : (Nat → Int32)) (f_isKept : (Nat → Int32)), m_X8_image_64 f_lucky f_may f_ranks f_voyage f_worths fuel v1 v2 v3 f_image f_isKept = some res → WW p l e (headSpec wsX8_image ({ frames := 1, cells := 0, slots := 0, locals := 22 } : Room)).room s m args below meth c D A 4 0 0 Q [(a_t, .inr (8, [.ref a_may, .ref a_voyage, .ref a_lucky, .ref a_worths, .ref a_ranks, .int x_t_signs, .ref b_pad, .int x_t_day, .int x_t_reason, .ref b_bears, .ref b_due, .ref b_borneBy, .ref b_gone, .ref b_sunk, .ref b_times, .int x_t_asked, .ref b_whoBore, .ref b_gives, .ref b_best, .ref b_holds, .ref b_refused, .ref b_sums, .ref a_image, .ref a_isKept])), (a_image, .inl (cI, 104, .inl f_image)), (a_isKept, .inl (cZ, 2, .inl f_isKept)), (a_lucky, .inl (cI, 5, .inl f_lucky)), (a_may, .inl (cI, 6, .inl f_may)), (a_ranks, .inl (cI, 5, .inl f_ranks)), (a_voyage, .inl (cI, 6, .inl f_voyage)), (a_worths, .inl (cI, 30, .inl f_worths))] [(0, .ref a_t), (1, .int v1), (2, .int v2), (3, .int v3)] [] 64 := by
    intro fuel_64
    induction fuel_64 with
    | zero => intro v1 v2 v3 f_image f_isKept h; exact og_0 h
    | succ fuel_64 ih_64 =>
      intro v1 v2 v3 f_image f_isKept h
      replace h : (if 5 ≤ v3 then ((m_X8_image_111 f_lucky f_may f_ranks f_voyage f_worths 1000000 v1 v2 0 f_image f_isKept)) else (ogi v3 5 (ogi ((v2 + 12) + v3) 104 (ogi v3 5 (ogi ((v2 + 17) + v3) 104 (ogl (v3 + 1) (fun (v3_103 : Int32) => ((m_X8_image_64 f_lucky f_may f_ranks f_voyage f_worths fuel_64) v1 v2 v3_103 (upd (upd f_image (Int32.toNatClampNeg ((v2 + 12) + v3)) (f_lucky (Int32.toNatClampNeg v3))) (Int32.toNatClampNeg ((v2 + 17) + v3)) (f_ranks (Int32.toNatClampNeg v3))) f_isKept))))))) : Option (Int32 × ((Nat → Int32) × (Nat → Int32)))) = some res := h
      refine ww_iload_n B dX8_image_64 3 rfl ?_
      refine ww_iconst B dX8_image_65 (v := 5) (by decide) ?_
      refine ww_icmp_ge B 109 dX8_image_66 (by decide) (fun c_66 => ?_) (fun c_66 => ?_)
      · replace h := og_t c_66 h
        refine ww_iconst B dX8_image_109 (v := 0) (by decide) ?_
        refine ww_istore_n B dX8_image_110 (lv' := [(3, .int 0), (0, .ref a_t), (1, .int v1), (2, .int v2)]) (by decide) rfl ?_
        refine ww_lsel (lv' := [(0, .ref a_t), (1, .int v1), (2, .int v2), (3, .int 0)]) [1, 2, 3, 0] rfl ?_
        exact cut_111 _ _ _ _ _ _ h
      · replace h := og_f c_66 h
        refine ww_aload_n B dX8_image_69 0 rfl ?_
        refine ww_get (ci := 8) (T := TX8) (C := RX8) (N := 24) B iX8 0 rfl rfl 22 (by decide) (by decide +kernel) rfl rfl dX8_image_70 ?_
        refine ww_iload_n B dX8_image_73 2 rfl ?_
        refine ww_bipush B dX8_image_74 (v := 12) (by decide) ?_
        refine ww_iadd B dX8_image_76 ?_
        refine ww_iload_n B dX8_image_77 3 rfl ?_
        refine ww_iadd B dX8_image_78 ?_
        refine ww_aload_n B dX8_image_79 0 rfl ?_
        refine ww_get (ci := 8) (T := TX8) (C := RX8) (N := 24) B iX8 0 rfl rfl 2 (by decide) (by decide +kernel) rfl rfl dX8_image_80 ?_
        refine ww_iload_n B dX8_image_83 3 rfl ?_
        obtain ⟨i_84, h⟩ := og_i h
        refine ww_iald B 3 rfl i_84 dX8_image_84 ?_
        obtain ⟨i_85, h⟩ := og_i h
        refine ww_iast B 1 rfl i_85 dX8_image_85 (ws' := [(a_t, .inr (8, [.ref a_may, .ref a_voyage, .ref a_lucky, .ref a_worths, .ref a_ranks, .int x_t_signs, .ref b_pad, .int x_t_day, .int x_t_reason, .ref b_bears, .ref b_due, .ref b_borneBy, .ref b_gone, .ref b_sunk, .ref b_times, .int x_t_asked, .ref b_whoBore, .ref b_gives, .ref b_best, .ref b_holds, .ref b_refused, .ref b_sums, .ref a_image, .ref a_isKept])), (a_image, .inl (cI, 104, .inl (upd f_image (Int32.toNatClampNeg ((v2 + 12) + v3)) (f_lucky (Int32.toNatClampNeg v3))))), (a_isKept, .inl (cZ, 2, .inl f_isKept)), (a_lucky, .inl (cI, 5, .inl f_lucky)), (a_may, .inl (cI, 6, .inl f_may)), (a_ranks, .inl (cI, 5, .inl f_ranks)), (a_voyage, .inl (cI, 6, .inl f_voyage)), (a_worths, .inl (cI, 30, .inl f_worths))]) rfl ?_
        refine ww_aload_n B dX8_image_86 0 rfl ?_
        refine ww_get (ci := 8) (T := TX8) (C := RX8) (N := 24) B iX8 0 rfl rfl 22 (by decide) (by decide +kernel) rfl rfl dX8_image_87 ?_
        refine ww_iload_n B dX8_image_90 2 rfl ?_
        refine ww_bipush B dX8_image_91 (v := 17) (by decide) ?_
        refine ww_iadd B dX8_image_93 ?_
        refine ww_iload_n B dX8_image_94 3 rfl ?_
        refine ww_iadd B dX8_image_95 ?_
        refine ww_aload_n B dX8_image_96 0 rfl ?_
        refine ww_get (ci := 8) (T := TX8) (C := RX8) (N := 24) B iX8 0 rfl rfl 4 (by decide) (by decide +kernel) rfl rfl dX8_image_97 ?_
        refine ww_iload_n B dX8_image_100 3 rfl ?_
        obtain ⟨i_101, h⟩ := og_i h
        refine ww_iald B 5 rfl i_101 dX8_image_101 ?_
        obtain ⟨i_102, h⟩ := og_i h
        refine ww_iast B 1 rfl i_102 dX8_image_102 (ws' := [(a_t, .inr (8, [.ref a_may, .ref a_voyage, .ref a_lucky, .ref a_worths, .ref a_ranks, .int x_t_signs, .ref b_pad, .int x_t_day, .int x_t_reason, .ref b_bears, .ref b_due, .ref b_borneBy, .ref b_gone, .ref b_sunk, .ref b_times, .int x_t_asked, .ref b_whoBore, .ref b_gives, .ref b_best, .ref b_holds, .ref b_refused, .ref b_sums, .ref a_image, .ref a_isKept])), (a_image, .inl (cI, 104, .inl (upd (upd f_image (Int32.toNatClampNeg ((v2 + 12) + v3)) (f_lucky (Int32.toNatClampNeg v3))) (Int32.toNatClampNeg ((v2 + 17) + v3)) (f_ranks (Int32.toNatClampNeg v3))))), (a_isKept, .inl (cZ, 2, .inl f_isKept)), (a_lucky, .inl (cI, 5, .inl f_lucky)), (a_may, .inl (cI, 6, .inl f_may)), (a_ranks, .inl (cI, 5, .inl f_ranks)), (a_voyage, .inl (cI, 6, .inl f_voyage)), (a_worths, .inl (cI, 30, .inl f_worths))]) rfl ?_
        obtain ⟨v3_103, ev3_103⟩ : ∃ y : Int32, y = (v3 + 1) := ⟨_, rfl⟩
        refine ww_iinc B dX8_image_103 3 rfl (v := v3_103) (by rw [ev3_103]; rfl) (by decide) (lv' := [(3, .int v3_103), (0, .ref a_t), (1, .int v1), (2, .int v2)]) rfl ?_
        replace h := og_l ev3_103 h
        refine ww_goto B 64 dX8_image_106 (by decide) ?_
        refine ww_lsel (lv' := [(0, .ref a_t), (1, .int v1), (2, .int v2), (3, .int v3_103)]) [1, 2, 3, 0] rfl ?_
        exact ih_64 _ _ _ _ _ h
  have cut_19 : ∀ (fuel : Nat) (v1 : Int32) (v2 : Int32) (v3 : Int32) (f_image : (Nat → Int32)) (f_isKept : (Nat → Int32)), m_X8_image_19 f_lucky f_may f_ranks f_voyage f_worths fuel v1 v2 v3 f_image f_isKept = some res → WW p l e (headSpec wsX8_image ({ frames := 1, cells := 0, slots := 0, locals := 22 } : Room)).room s m args below meth c D A 4 0 0 Q [(a_t, .inr (8, [.ref a_may, .ref a_voyage, .ref a_lucky, .ref a_worths, .ref a_ranks, .int x_t_signs, .ref b_pad, .int x_t_day, .int x_t_reason, .ref b_bears, .ref b_due, .ref b_borneBy, .ref b_gone, .ref b_sunk, .ref b_times, .int x_t_asked, .ref b_whoBore, .ref b_gives, .ref b_best, .ref b_holds, .ref b_refused, .ref b_sums, .ref a_image, .ref a_isKept])), (a_image, .inl (cI, 104, .inl f_image)), (a_isKept, .inl (cZ, 2, .inl f_isKept)), (a_lucky, .inl (cI, 5, .inl f_lucky)), (a_may, .inl (cI, 6, .inl f_may)), (a_ranks, .inl (cI, 5, .inl f_ranks)), (a_voyage, .inl (cI, 6, .inl f_voyage)), (a_worths, .inl (cI, 30, .inl f_worths))] [(0, .ref a_t), (1, .int v1), (2, .int v2), (3, .int v3)] [] 19 := by
    intro fuel_19
    induction fuel_19 with
    | zero => intro v1 v2 v3 f_image f_isKept h; exact og_0 h
    | succ fuel_19 ih_19 =>
      intro v1 v2 v3 f_image f_isKept h
      replace h : (if 6 ≤ v3 then ((m_X8_image_64 f_lucky f_may f_ranks f_voyage f_worths 1000000 v1 v2 0 f_image f_isKept)) else (ogi v3 6 (ogi (v2 + v3) 104 (ogi v3 6 (ogi ((v2 + 6) + v3) 104 (ogl (v3 + 1) (fun (v3_56 : Int32) => ((m_X8_image_19 f_lucky f_may f_ranks f_voyage f_worths fuel_19) v1 v2 v3_56 (upd (upd f_image (Int32.toNatClampNeg (v2 + v3)) (f_may (Int32.toNatClampNeg v3))) (Int32.toNatClampNeg ((v2 + 6) + v3)) (f_voyage (Int32.toNatClampNeg v3))) f_isKept))))))) : Option (Int32 × ((Nat → Int32) × (Nat → Int32)))) = some res := h
      refine ww_iload_n B dX8_image_19 3 rfl ?_
      refine ww_bipush B dX8_image_20 (v := 6) (by decide) ?_
      refine ww_icmp_ge B 62 dX8_image_22 (by decide) (fun c_22 => ?_) (fun c_22 => ?_)
      · replace h := og_t c_22 h
        refine ww_iconst B dX8_image_62 (v := 0) (by decide) ?_
        refine ww_istore_n B dX8_image_63 (lv' := [(3, .int 0), (0, .ref a_t), (1, .int v1), (2, .int v2)]) (by decide) rfl ?_
        refine ww_lsel (lv' := [(0, .ref a_t), (1, .int v1), (2, .int v2), (3, .int 0)]) [1, 2, 3, 0] rfl ?_
        exact cut_64 _ _ _ _ _ _ h
      · replace h := og_f c_22 h
        refine ww_aload_n B dX8_image_25 0 rfl ?_
        refine ww_get (ci := 8) (T := TX8) (C := RX8) (N := 24) B iX8 0 rfl rfl 22 (by decide) (by decide +kernel) rfl rfl dX8_image_26 ?_
        refine ww_iload_n B dX8_image_29 2 rfl ?_
        refine ww_iload_n B dX8_image_30 3 rfl ?_
        refine ww_iadd B dX8_image_31 ?_
        refine ww_aload_n B dX8_image_32 0 rfl ?_
        refine ww_get (ci := 8) (T := TX8) (C := RX8) (N := 24) B iX8 0 rfl rfl 0 (by decide) (by decide +kernel) rfl rfl dX8_image_33 ?_
        refine ww_iload_n B dX8_image_36 3 rfl ?_
        obtain ⟨i_37, h⟩ := og_i h
        refine ww_iald B 4 rfl i_37 dX8_image_37 ?_
        obtain ⟨i_38, h⟩ := og_i h
        refine ww_iast B 1 rfl i_38 dX8_image_38 (ws' := [(a_t, .inr (8, [.ref a_may, .ref a_voyage, .ref a_lucky, .ref a_worths, .ref a_ranks, .int x_t_signs, .ref b_pad, .int x_t_day, .int x_t_reason, .ref b_bears, .ref b_due, .ref b_borneBy, .ref b_gone, .ref b_sunk, .ref b_times, .int x_t_asked, .ref b_whoBore, .ref b_gives, .ref b_best, .ref b_holds, .ref b_refused, .ref b_sums, .ref a_image, .ref a_isKept])), (a_image, .inl (cI, 104, .inl (upd f_image (Int32.toNatClampNeg (v2 + v3)) (f_may (Int32.toNatClampNeg v3))))), (a_isKept, .inl (cZ, 2, .inl f_isKept)), (a_lucky, .inl (cI, 5, .inl f_lucky)), (a_may, .inl (cI, 6, .inl f_may)), (a_ranks, .inl (cI, 5, .inl f_ranks)), (a_voyage, .inl (cI, 6, .inl f_voyage)), (a_worths, .inl (cI, 30, .inl f_worths))]) rfl ?_
        refine ww_aload_n B dX8_image_39 0 rfl ?_
        refine ww_get (ci := 8) (T := TX8) (C := RX8) (N := 24) B iX8 0 rfl rfl 22 (by decide) (by decide +kernel) rfl rfl dX8_image_40 ?_
        refine ww_iload_n B dX8_image_43 2 rfl ?_
        refine ww_bipush B dX8_image_44 (v := 6) (by decide) ?_
        refine ww_iadd B dX8_image_46 ?_
        refine ww_iload_n B dX8_image_47 3 rfl ?_
        refine ww_iadd B dX8_image_48 ?_
        refine ww_aload_n B dX8_image_49 0 rfl ?_
        refine ww_get (ci := 8) (T := TX8) (C := RX8) (N := 24) B iX8 0 rfl rfl 1 (by decide) (by decide +kernel) rfl rfl dX8_image_50 ?_
        refine ww_iload_n B dX8_image_53 3 rfl ?_
        obtain ⟨i_54, h⟩ := og_i h
        refine ww_iald B 6 rfl i_54 dX8_image_54 ?_
        obtain ⟨i_55, h⟩ := og_i h
        refine ww_iast B 1 rfl i_55 dX8_image_55 (ws' := [(a_t, .inr (8, [.ref a_may, .ref a_voyage, .ref a_lucky, .ref a_worths, .ref a_ranks, .int x_t_signs, .ref b_pad, .int x_t_day, .int x_t_reason, .ref b_bears, .ref b_due, .ref b_borneBy, .ref b_gone, .ref b_sunk, .ref b_times, .int x_t_asked, .ref b_whoBore, .ref b_gives, .ref b_best, .ref b_holds, .ref b_refused, .ref b_sums, .ref a_image, .ref a_isKept])), (a_image, .inl (cI, 104, .inl (upd (upd f_image (Int32.toNatClampNeg (v2 + v3)) (f_may (Int32.toNatClampNeg v3))) (Int32.toNatClampNeg ((v2 + 6) + v3)) (f_voyage (Int32.toNatClampNeg v3))))), (a_isKept, .inl (cZ, 2, .inl f_isKept)), (a_lucky, .inl (cI, 5, .inl f_lucky)), (a_may, .inl (cI, 6, .inl f_may)), (a_ranks, .inl (cI, 5, .inl f_ranks)), (a_voyage, .inl (cI, 6, .inl f_voyage)), (a_worths, .inl (cI, 30, .inl f_worths))]) rfl ?_
        obtain ⟨v3_56, ev3_56⟩ : ∃ y : Int32, y = (v3 + 1) := ⟨_, rfl⟩
        refine ww_iinc B dX8_image_56 3 rfl (v := v3_56) (by rw [ev3_56]; rfl) (by decide) (lv' := [(3, .int v3_56), (0, .ref a_t), (1, .int v1), (2, .int v2)]) rfl ?_
        replace h := og_l ev3_56 h
        refine ww_goto B 19 dX8_image_59 (by decide) ?_
        refine ww_lsel (lv' := [(0, .ref a_t), (1, .int v1), (2, .int v2), (3, .int v3_56)]) [1, 2, 3, 0] rfl ?_
        exact ih_19 _ _ _ _ _ h
  refine ww_iload_n B dX8_image_0 1 rfl ?_
  refine ww_iconst B dX8_image_1 (v := 0) (by decide) ?_
  refine ww_iconst B dX8_image_2 (v := 1) (by decide) ?_
  obtain ⟨q_3, hq_3, h⟩ := og_b h
  refine ww_ci0 B (k' := 0) (n' := 0) rfl rfl [] [0, 1, 2, 3, 4, 5, 6, 7] (wr := [(a_t, .inr (8, [.ref a_may, .ref a_voyage, .ref a_lucky, .ref a_worths, .ref a_ranks, .int x_t_signs, .ref b_pad, .int x_t_day, .int x_t_reason, .ref b_bears, .ref b_due, .ref b_borneBy, .ref b_gone, .ref b_sunk, .ref b_times, .int x_t_asked, .ref b_whoBore, .ref b_gives, .ref b_best, .ref b_holds, .ref b_refused, .ref b_sums, .ref a_image, .ref a_isKept])), (a_image, .inl (cI, 104, .inl f_image)), (a_isKept, .inl (cZ, 2, .inl f_isKept)), (a_lucky, .inl (cI, 5, .inl f_lucky)), (a_may, .inl (cI, 6, .inl f_may)), (a_ranks, .inl (cI, 5, .inl f_ranks)), (a_voyage, .inl (cI, 6, .inl f_voyage)), (a_worths, .inl (cI, 30, .inl f_worths))]) (st := []) rfl rfl (by decide) (rr_S B (c_X8_in l D cI cZ v1 0 1 hq_3) gX8_image_X8_in rfl rfl rfl (N := 3) rfl (by decide +kernel) ⟨Nat.le_of_ble_eq_true rfl, Nat.le_of_ble_eq_true rfl⟩ rfl dX8_image_3 (Nat.le_of_ble_eq_true rfl) ⟨Nat.le_of_ble_eq_true rfl, Nat.le_of_ble_eq_true rfl⟩) (ws' := [(a_t, .inr (8, [.ref a_may, .ref a_voyage, .ref a_lucky, .ref a_worths, .ref a_ranks, .int x_t_signs, .ref b_pad, .int x_t_day, .int x_t_reason, .ref b_bears, .ref b_due, .ref b_borneBy, .ref b_gone, .ref b_sunk, .ref b_times, .int x_t_asked, .ref b_whoBore, .ref b_gives, .ref b_best, .ref b_holds, .ref b_refused, .ref b_sums, .ref a_image, .ref a_isKept])), (a_image, .inl (cI, 104, .inl f_image)), (a_isKept, .inl (cZ, 2, .inl f_isKept)), (a_lucky, .inl (cI, 5, .inl f_lucky)), (a_may, .inl (cI, 6, .inl f_may)), (a_ranks, .inl (cI, 5, .inl f_ranks)), (a_voyage, .inl (cI, 6, .inl f_voyage)), (a_worths, .inl (cI, 30, .inl f_worths))]) rfl ?_
  refine ww_if_ne B 12 dX8_image_6 (by decide) (fun c_6 => ?_) (fun c_6 => ?_)
  · replace h := og_f c_6 h
    refine ww_bipush B dX8_image_12 (v := 52) (by decide) ?_
    refine ww_iload_n B dX8_image_14 1 rfl ?_
    refine ww_imul B dX8_image_15 ?_
    refine ww_topi (fun v2_16 ev2_16 => ?_)
    replace h := og_l ev2_16 h
    refine ww_istore_n B dX8_image_16 (lv' := [(2, .int v2_16), (0, .ref a_t), (1, .int v1)]) (by decide) rfl ?_
    refine ww_iconst B dX8_image_17 (v := 0) (by decide) ?_
    refine ww_istore_n B dX8_image_18 (lv' := [(3, .int 0), (2, .int v2_16), (0, .ref a_t), (1, .int v1)]) (by decide) rfl ?_
    refine ww_lsel (lv' := [(0, .ref a_t), (1, .int v1), (2, .int v2_16), (3, .int 0)]) [2, 3, 1, 0] rfl ?_
    exact cut_19 _ _ _ _ _ _ h
  · replace h := og_t c_6 h
    refine ww_bipush B dX8_image_9 (v := (-2)) (by decide) ?_
    exact ww_iret B hA hQ hr dX8_image_11 (f_image, f_isKept) [0, 1, 2, 3, 4, 5, 6, 7] rfl (by decide) (og_p h)
noncomputable def m_X8_judge (f_may : (Nat → Int32)) (f_pad : (Nat → Int32)) (x_t_signs : Int32) (x_t_asked : Int32) (f_bears : (Nat → Int32)) (f_borneBy : (Nat → Int32)) (f_due : (Nat → Int32)) (f_gone : (Nat → Int32)) (f_sunk : (Nat → Int32)) (f_times : (Nat → Int32)) (f_whoBore : (Nat → Int32)) (x_t_day : Int32) (x_t_reason : Int32) (v1 : Int32) : Option (Int32 × ((Nat → Int32) × (Nat → Int32) × (Nat → Int32) × (Nat → Int32) × (Nat → Int32) × (Nat → Int32) × (Nat → Int32) × Int32 × Int32)) := ogb (m_X8_in v1 0 1) (fun q_3 => if q_3 = 0 then (some ((-2), (f_bears, f_borneBy, f_due, f_gone, f_sunk, f_times, f_whoBore, x_t_day, x_t_reason))) else (ogb (m_X8_faultOf f_pad x_t_signs) (fun q_13 => if q_13 < 0 then (ogb (m_X8_opens f_pad x_t_signs) (fun q_23 => if q_23 ≤ 0 then (ogb (m_X8_goLog f_may f_pad x_t_signs x_t_asked f_bears f_borneBy f_due f_gone f_sunk f_times f_whoBore x_t_day x_t_reason 0) (fun q_34 => if q_34.1 < 0 then (some (q_34.1, (q_34.2.1, q_34.2.2.1, q_34.2.2.2.1, q_34.2.2.2.2.1, q_34.2.2.2.2.2.1, q_34.2.2.2.2.2.2.1, q_34.2.2.2.2.2.2.2.1, q_34.2.2.2.2.2.2.2.2.1, q_34.2.2.2.2.2.2.2.2.2))) else (if v1 = 0 then (some (q_34.1, (q_34.2.1, q_34.2.2.1, q_34.2.2.2.1, q_34.2.2.2.2.1, q_34.2.2.2.2.2.1, q_34.2.2.2.2.2.2.1, q_34.2.2.2.2.2.2.2.1, q_34.2.2.2.2.2.2.2.2.1, q_34.2.2.2.2.2.2.2.2.2))) else (some (q_34.2.2.2.2.2.2.2.2.2, (q_34.2.1, q_34.2.2.1, q_34.2.2.2.1, q_34.2.2.2.2.1, q_34.2.2.2.2.2.1, q_34.2.2.2.2.2.2.1, q_34.2.2.2.2.2.2.2.1, q_34.2.2.2.2.2.2.2.2.1, q_34.2.2.2.2.2.2.2.2.2)))))) else (some ((-3), (f_bears, f_borneBy, f_due, f_gone, f_sunk, f_times, f_whoBore, x_t_day, x_t_reason))))) else (some ((-5), (f_bears, f_borneBy, f_due, f_gone, f_sunk, f_times, f_whoBore, x_t_day, x_t_reason))))))
set_option maxHeartbeats 4000000 in
set_option maxRecDepth 100000 in
theorem c_X8_judge (l : Launch) (D : va_G) (cI cZ : ClassId) (a_t a_bears a_borneBy a_due a_gone a_may a_pad a_sunk a_times a_whoBore b_voyage b_lucky b_worths b_ranks b_gives b_best b_holds b_refused b_sums b_image b_isKept : Nat) (f_bears : (Nat → Int32)) (f_borneBy : (Nat → Int32)) (f_due : (Nat → Int32)) (f_gone : (Nat → Int32)) (f_may : (Nat → Int32)) (f_pad : (Nat → Int32)) (f_sunk : (Nat → Int32)) (f_times : (Nat → Int32)) (f_whoBore : (Nat → Int32)) (x_t_signs : Int32) (x_t_day : Int32) (x_t_reason : Int32) (x_t_asked : Int32) (v1 : Int32) {res : (Int32 × ((Nat → Int32) × (Nat → Int32) × (Nat → Int32) × (Nat → Int32) × (Nat → Int32) × (Nat → Int32) × (Nat → Int32) × Int32 × Int32))} (h : m_X8_judge f_may f_pad x_t_signs x_t_asked f_bears f_borneBy f_due f_gone f_sunk f_times f_whoBore x_t_day x_t_reason v1 = some res) : CT l yX8_judge wsX8_judge ({ frames := 3, cells := 0, slots := 0, locals := 70 } : Room) D cI cZ [.ref a_t, .int v1] [(a_t, .inr (8, [.ref a_may, .ref b_voyage, .ref b_lucky, .ref b_worths, .ref b_ranks, .int x_t_signs, .ref a_pad, .int x_t_day, .int x_t_reason, .ref a_bears, .ref a_due, .ref a_borneBy, .ref a_gone, .ref a_sunk, .ref a_times, .int x_t_asked, .ref a_whoBore, .ref b_gives, .ref b_best, .ref b_holds, .ref b_refused, .ref b_sums, .ref b_image, .ref b_isKept])), (a_bears, .inl (cI, 6, .inl f_bears)), (a_borneBy, .inl (cI, 5, .inl f_borneBy)), (a_due, .inl (cI, 5, .inl f_due)), (a_gone, .inl (cZ, 5, .inl f_gone)), (a_may, .inl (cI, 6, .inl f_may)), (a_pad, .inl (cI, 48, .inl f_pad)), (a_sunk, .inl (cZ, 6, .inl f_sunk)), (a_times, .inl (cI, 5, .inl f_times)), (a_whoBore, .inl (cI, 5, .inl f_whoBore))] (QI D [(a_t, .inr (8, [.ref a_may, .ref b_voyage, .ref b_lucky, .ref b_worths, .ref b_ranks, .int x_t_signs, .ref a_pad, .int x_t_day, .int x_t_reason, .ref a_bears, .ref a_due, .ref a_borneBy, .ref a_gone, .ref a_sunk, .ref a_times, .int x_t_asked, .ref a_whoBore, .ref b_gives, .ref b_best, .ref b_holds, .ref b_refused, .ref b_sums, .ref b_image, .ref b_isKept])), (a_bears, .inl (cI, 6, .inl f_bears)), (a_borneBy, .inl (cI, 5, .inl f_borneBy)), (a_due, .inl (cI, 5, .inl f_due)), (a_gone, .inl (cZ, 5, .inl f_gone)), (a_may, .inl (cI, 6, .inl f_may)), (a_pad, .inl (cI, 48, .inl f_pad)), (a_sunk, .inl (cZ, 6, .inl f_sunk)), (a_times, .inl (cI, 5, .inl f_times)), (a_whoBore, .inl (cI, 5, .inl f_whoBore))] (fun (r : Int32) (u : (Nat → Int32) × (Nat → Int32) × (Nat → Int32) × (Nat → Int32) × (Nat → Int32) × (Nat → Int32) × (Nat → Int32) × Int32 × Int32) => r = res.1 ∧ u = res.2) (fun (u : (Nat → Int32) × (Nat → Int32) × (Nat → Int32) × (Nat → Int32) × (Nat → Int32) × (Nat → Int32) × (Nat → Int32) × Int32 × Int32) => [(a_t, .inr (8, [.ref a_may, .ref b_voyage, .ref b_lucky, .ref b_worths, .ref b_ranks, .int x_t_signs, .ref a_pad, .int u.2.2.2.2.2.2.2.1, .int u.2.2.2.2.2.2.2.2, .ref a_bears, .ref a_due, .ref a_borneBy, .ref a_gone, .ref a_sunk, .ref a_times, .int x_t_asked, .ref a_whoBore, .ref b_gives, .ref b_best, .ref b_holds, .ref b_refused, .ref b_sums, .ref b_image, .ref b_isKept])), (a_bears, .inl (cI, 6, .inl u.1)), (a_borneBy, .inl (cI, 5, .inl u.2.1)), (a_due, .inl (cI, 5, .inl u.2.2.1)), (a_gone, .inl (cZ, 5, .inl u.2.2.2.1)), (a_may, .inl (cI, 6, .inl f_may)), (a_pad, .inl (cI, 48, .inl f_pad)), (a_sunk, .inl (cZ, 6, .inl u.2.2.2.2.1)), (a_times, .inl (cI, 5, .inl u.2.2.2.2.2.1)), (a_whoBore, .inl (cI, 5, .inl u.2.2.2.2.2.2.1))])) 0 0 := by
  have h : (ogb (m_X8_in v1 0 1) (fun q_3 => if q_3 = 0 then (some ((-2), (f_bears, f_borneBy, f_due, f_gone, f_sunk, f_times, f_whoBore, x_t_day, x_t_reason))) else (ogb (m_X8_faultOf f_pad x_t_signs) (fun q_13 => if q_13 < 0 then (ogb (m_X8_opens f_pad x_t_signs) (fun q_23 => if q_23 ≤ 0 then (ogb (m_X8_goLog f_may f_pad x_t_signs x_t_asked f_bears f_borneBy f_due f_gone f_sunk f_times f_whoBore x_t_day x_t_reason 0) (fun q_34 => if q_34.1 < 0 then (some (q_34.1, (q_34.2.1, q_34.2.2.1, q_34.2.2.2.1, q_34.2.2.2.2.1, q_34.2.2.2.2.2.1, q_34.2.2.2.2.2.2.1, q_34.2.2.2.2.2.2.2.1, q_34.2.2.2.2.2.2.2.2.1, q_34.2.2.2.2.2.2.2.2.2))) else (if v1 = 0 then (some (q_34.1, (q_34.2.1, q_34.2.2.1, q_34.2.2.2.1, q_34.2.2.2.2.1, q_34.2.2.2.2.2.1, q_34.2.2.2.2.2.2.1, q_34.2.2.2.2.2.2.2.1, q_34.2.2.2.2.2.2.2.2.1, q_34.2.2.2.2.2.2.2.2.2))) else (some (q_34.2.2.2.2.2.2.2.2.2, (q_34.2.1, q_34.2.2.1, q_34.2.2.2.1, q_34.2.2.2.2.1, q_34.2.2.2.2.2.1, q_34.2.2.2.2.2.2.1, q_34.2.2.2.2.2.2.2.1, q_34.2.2.2.2.2.2.2.2.1, q_34.2.2.2.2.2.2.2.2.2)))))) else (some ((-3), (f_bears, f_borneBy, f_due, f_gone, f_sunk, f_times, f_whoBore, x_t_day, x_t_reason))))) else (some ((-5), (f_bears, f_borneBy, f_due, f_gone, f_sunk, f_times, f_whoBore, x_t_day, x_t_reason)))))) : Option (Int32 × ((Nat → Int32) × (Nat → Int32) × (Nat → Int32) × (Nat → Int32) × (Nat → Int32) × (Nat → Int32) × (Nat → Int32) × Int32 × Int32))) = some res := h
  refine ct_entry (cc := cX8_judge) (nl := 3) (ret := (some .int)) (own := RX8) (lv0 := [(0, .ref a_t), (1, .int v1)]) (by decide) rfl rfl (Nat.le_of_ble_eq_true rfl) rfl ?_
  intro p e s m args below meth c A Q hA hQ hr hnm B
  have iX8 : ∀ w ∈ wsX80, w ∈ wsX8_judge := by decide +kernel
  refine ww_iload_n B dX8_judge_0 1 rfl ?_
  refine ww_iconst B dX8_judge_1 (v := 0) (by decide) ?_
  refine ww_iconst B dX8_judge_2 (v := 1) (by decide) ?_
  obtain ⟨q_3, hq_3, h⟩ := og_b h
  refine ww_ci0 B (k' := 0) (n' := 0) rfl rfl [] [0, 1, 2, 3, 4, 5, 6, 7, 8, 9] (wr := [(a_t, .inr (8, [.ref a_may, .ref b_voyage, .ref b_lucky, .ref b_worths, .ref b_ranks, .int x_t_signs, .ref a_pad, .int x_t_day, .int x_t_reason, .ref a_bears, .ref a_due, .ref a_borneBy, .ref a_gone, .ref a_sunk, .ref a_times, .int x_t_asked, .ref a_whoBore, .ref b_gives, .ref b_best, .ref b_holds, .ref b_refused, .ref b_sums, .ref b_image, .ref b_isKept])), (a_bears, .inl (cI, 6, .inl f_bears)), (a_borneBy, .inl (cI, 5, .inl f_borneBy)), (a_due, .inl (cI, 5, .inl f_due)), (a_gone, .inl (cZ, 5, .inl f_gone)), (a_may, .inl (cI, 6, .inl f_may)), (a_pad, .inl (cI, 48, .inl f_pad)), (a_sunk, .inl (cZ, 6, .inl f_sunk)), (a_times, .inl (cI, 5, .inl f_times)), (a_whoBore, .inl (cI, 5, .inl f_whoBore))]) (st := []) rfl rfl (by decide) (rr_S B (c_X8_in l D cI cZ v1 0 1 hq_3) gX8_judge_X8_in rfl rfl rfl (N := 3) rfl (by decide +kernel) ⟨Nat.le_of_ble_eq_true rfl, Nat.le_of_ble_eq_true rfl⟩ rfl dX8_judge_3 (Nat.le_of_ble_eq_true rfl) ⟨Nat.le_of_ble_eq_true rfl, Nat.le_of_ble_eq_true rfl⟩) (ws' := [(a_t, .inr (8, [.ref a_may, .ref b_voyage, .ref b_lucky, .ref b_worths, .ref b_ranks, .int x_t_signs, .ref a_pad, .int x_t_day, .int x_t_reason, .ref a_bears, .ref a_due, .ref a_borneBy, .ref a_gone, .ref a_sunk, .ref a_times, .int x_t_asked, .ref a_whoBore, .ref b_gives, .ref b_best, .ref b_holds, .ref b_refused, .ref b_sums, .ref b_image, .ref b_isKept])), (a_bears, .inl (cI, 6, .inl f_bears)), (a_borneBy, .inl (cI, 5, .inl f_borneBy)), (a_due, .inl (cI, 5, .inl f_due)), (a_gone, .inl (cZ, 5, .inl f_gone)), (a_may, .inl (cI, 6, .inl f_may)), (a_pad, .inl (cI, 48, .inl f_pad)), (a_sunk, .inl (cZ, 6, .inl f_sunk)), (a_times, .inl (cI, 5, .inl f_times)), (a_whoBore, .inl (cI, 5, .inl f_whoBore))]) rfl ?_
  refine ww_if_ne B 12 dX8_judge_6 (by decide) (fun c_6 => ?_) (fun c_6 => ?_)
  · replace h := og_f c_6 h
    refine ww_aload_n B dX8_judge_12 0 rfl ?_
    obtain ⟨q_13, hq_13, h⟩ := og_b h
    refine ww_ci0 B (k' := 0) (n' := 0) rfl rfl [0, 6] [1, 2, 3, 4, 5, 7, 8, 9] (wr := [(a_bears, .inl (cI, 6, .inl f_bears)), (a_borneBy, .inl (cI, 5, .inl f_borneBy)), (a_due, .inl (cI, 5, .inl f_due)), (a_gone, .inl (cZ, 5, .inl f_gone)), (a_may, .inl (cI, 6, .inl f_may)), (a_sunk, .inl (cZ, 6, .inl f_sunk)), (a_times, .inl (cI, 5, .inl f_times)), (a_whoBore, .inl (cI, 5, .inl f_whoBore))]) (st := []) rfl rfl (by decide) (rr_V B (c_X8_faultOf l D cI cZ a_t a_pad a_may b_voyage b_lucky b_worths b_ranks a_bears a_due a_borneBy a_gone a_sunk a_times a_whoBore b_gives b_best b_holds b_refused b_sums b_image b_isKept f_pad x_t_signs x_t_day x_t_reason x_t_asked hq_13) gX8_judge_X8_faultOf rfl rfl rfl (N := 0) rfl (by decide +kernel) ⟨Nat.le_of_ble_eq_true rfl, Nat.le_of_ble_eq_true rfl⟩ rfl dX8_judge_13 0 rfl rfl (Nat.le_of_ble_eq_true rfl) ⟨Nat.le_of_ble_eq_true rfl, Nat.le_of_ble_eq_true rfl⟩) (ws' := [(a_bears, .inl (cI, 6, .inl f_bears)), (a_borneBy, .inl (cI, 5, .inl f_borneBy)), (a_due, .inl (cI, 5, .inl f_due)), (a_gone, .inl (cZ, 5, .inl f_gone)), (a_may, .inl (cI, 6, .inl f_may)), (a_sunk, .inl (cZ, 6, .inl f_sunk)), (a_times, .inl (cI, 5, .inl f_times)), (a_whoBore, .inl (cI, 5, .inl f_whoBore)), (a_t, .inr (8, [.ref a_may, .ref b_voyage, .ref b_lucky, .ref b_worths, .ref b_ranks, .int x_t_signs, .ref a_pad, .int x_t_day, .int x_t_reason, .ref a_bears, .ref a_due, .ref a_borneBy, .ref a_gone, .ref a_sunk, .ref a_times, .int x_t_asked, .ref a_whoBore, .ref b_gives, .ref b_best, .ref b_holds, .ref b_refused, .ref b_sums, .ref b_image, .ref b_isKept])), (a_pad, .inl (cI, 48, .inl f_pad))]) rfl ?_
    refine ww_if_lt B 22 dX8_judge_16 (by decide) (fun c_16 => ?_) (fun c_16 => ?_)
    · replace h := og_t c_16 h
      refine ww_aload_n B dX8_judge_22 0 rfl ?_
      obtain ⟨q_23, hq_23, h⟩ := og_b h
      refine ww_ci0 B (k' := 0) (n' := 0) rfl rfl [8, 9] [0, 1, 2, 3, 4, 5, 6, 7] (wr := [(a_bears, .inl (cI, 6, .inl f_bears)), (a_borneBy, .inl (cI, 5, .inl f_borneBy)), (a_due, .inl (cI, 5, .inl f_due)), (a_gone, .inl (cZ, 5, .inl f_gone)), (a_may, .inl (cI, 6, .inl f_may)), (a_sunk, .inl (cZ, 6, .inl f_sunk)), (a_times, .inl (cI, 5, .inl f_times)), (a_whoBore, .inl (cI, 5, .inl f_whoBore))]) (st := []) rfl rfl (by decide) (rr_V B (c_X8_opens l D cI cZ a_t a_pad a_may b_voyage b_lucky b_worths b_ranks a_bears a_due a_borneBy a_gone a_sunk a_times a_whoBore b_gives b_best b_holds b_refused b_sums b_image b_isKept f_pad x_t_signs x_t_day x_t_reason x_t_asked hq_23) gX8_judge_X8_opens rfl rfl rfl (N := 0) rfl (by decide +kernel) ⟨Nat.le_of_ble_eq_true rfl, Nat.le_of_ble_eq_true rfl⟩ rfl dX8_judge_23 0 rfl rfl (Nat.le_of_ble_eq_true rfl) ⟨Nat.le_of_ble_eq_true rfl, Nat.le_of_ble_eq_true rfl⟩) (ws' := [(a_bears, .inl (cI, 6, .inl f_bears)), (a_borneBy, .inl (cI, 5, .inl f_borneBy)), (a_due, .inl (cI, 5, .inl f_due)), (a_gone, .inl (cZ, 5, .inl f_gone)), (a_may, .inl (cI, 6, .inl f_may)), (a_sunk, .inl (cZ, 6, .inl f_sunk)), (a_times, .inl (cI, 5, .inl f_times)), (a_whoBore, .inl (cI, 5, .inl f_whoBore)), (a_t, .inr (8, [.ref a_may, .ref b_voyage, .ref b_lucky, .ref b_worths, .ref b_ranks, .int x_t_signs, .ref a_pad, .int x_t_day, .int x_t_reason, .ref a_bears, .ref a_due, .ref a_borneBy, .ref a_gone, .ref a_sunk, .ref a_times, .int x_t_asked, .ref a_whoBore, .ref b_gives, .ref b_best, .ref b_holds, .ref b_refused, .ref b_sums, .ref b_image, .ref b_isKept])), (a_pad, .inl (cI, 48, .inl f_pad))]) rfl ?_
      refine ww_if_le B 32 dX8_judge_26 (by decide) (fun c_26 => ?_) (fun c_26 => ?_)
      · replace h := og_t c_26 h
        refine ww_aload_n B dX8_judge_32 0 rfl ?_
        refine ww_iconst B dX8_judge_33 (v := 0) (by decide) ?_
        obtain ⟨q_34, hq_34, h⟩ := og_b h
        refine ww_ciM B (k' := 0) (n' := 0) rfl rfl [8, 0, 1, 2, 3, 4, 9, 5, 6, 7] [] (wr := []) (st := []) rfl rfl (by decide) (rr_V B (c_X8_goLog l D cI cZ a_t a_bears a_borneBy a_due a_gone a_may a_pad a_sunk a_times a_whoBore b_voyage b_lucky b_worths b_ranks b_gives b_best b_holds b_refused b_sums b_image b_isKept f_bears f_borneBy f_due f_gone f_may f_pad f_sunk f_times f_whoBore x_t_signs x_t_day x_t_reason x_t_asked 0 hq_34) gX8_judge_X8_goLog rfl rfl rfl (N := 1) rfl (by decide +kernel) ⟨Nat.le_of_ble_eq_true rfl, Nat.le_of_ble_eq_true rfl⟩ rfl dX8_judge_34 0 rfl rfl (Nat.le_of_ble_eq_true rfl) ⟨Nat.le_of_ble_eq_true rfl, Nat.le_of_ble_eq_true rfl⟩) (ws' := [(a_t, .inr (8, [.ref a_may, .ref b_voyage, .ref b_lucky, .ref b_worths, .ref b_ranks, .int x_t_signs, .ref a_pad, .int q_34.2.2.2.2.2.2.2.2.1, .int q_34.2.2.2.2.2.2.2.2.2, .ref a_bears, .ref a_due, .ref a_borneBy, .ref a_gone, .ref a_sunk, .ref a_times, .int x_t_asked, .ref a_whoBore, .ref b_gives, .ref b_best, .ref b_holds, .ref b_refused, .ref b_sums, .ref b_image, .ref b_isKept])), (a_bears, .inl (cI, 6, .inl q_34.2.1)), (a_borneBy, .inl (cI, 5, .inl q_34.2.2.1)), (a_due, .inl (cI, 5, .inl q_34.2.2.2.1)), (a_gone, .inl (cZ, 5, .inl q_34.2.2.2.2.1)), (a_may, .inl (cI, 6, .inl f_may)), (a_pad, .inl (cI, 48, .inl f_pad)), (a_sunk, .inl (cZ, 6, .inl q_34.2.2.2.2.2.1)), (a_times, .inl (cI, 5, .inl q_34.2.2.2.2.2.2.1)), (a_whoBore, .inl (cI, 5, .inl q_34.2.2.2.2.2.2.2.1))]) rfl ?_
        refine ww_istore_n B dX8_judge_37 (lv' := [(2, .int q_34.1), (0, .ref a_t), (1, .int v1)]) (by decide) rfl ?_
        refine ww_iload_n B dX8_judge_38 0 rfl ?_
        refine ww_if_lt B 46 dX8_judge_39 (by decide) (fun c_39 => ?_) (fun c_39 => ?_)
        · replace h := og_t c_39 h
          refine ww_iload_n B dX8_judge_46 0 rfl ?_
          refine ww_goto B 54 dX8_judge_47 (by decide) ?_
          exact ww_iret B hA hQ hr dX8_judge_54 (q_34.2.1, q_34.2.2.1, q_34.2.2.2.1, q_34.2.2.2.2.1, q_34.2.2.2.2.2.1, q_34.2.2.2.2.2.2.1, q_34.2.2.2.2.2.2.2.1, q_34.2.2.2.2.2.2.2.2.1, q_34.2.2.2.2.2.2.2.2.2) [0, 1, 2, 3, 4, 5, 6, 7, 8, 9] rfl (by decide) (og_p h)
        · replace h := og_f c_39 h
          refine ww_iload_n B dX8_judge_42 2 rfl ?_
          refine ww_if_ne B 50 dX8_judge_43 (by decide) (fun c_43 => ?_) (fun c_43 => ?_)
          · replace h := og_f c_43 h
            refine ww_aload_n B dX8_judge_50 1 rfl ?_
            refine ww_get (ci := 8) (T := TX8) (C := RX8) (N := 24) B iX8 0 rfl rfl 8 (by decide) (by decide +kernel) rfl rfl dX8_judge_51 ?_
            exact ww_iret B hA hQ hr dX8_judge_54 (q_34.2.1, q_34.2.2.1, q_34.2.2.2.1, q_34.2.2.2.2.1, q_34.2.2.2.2.2.1, q_34.2.2.2.2.2.2.1, q_34.2.2.2.2.2.2.2.1, q_34.2.2.2.2.2.2.2.2.1, q_34.2.2.2.2.2.2.2.2.2) [0, 1, 2, 3, 4, 5, 6, 7, 8, 9] rfl (by decide) (og_p h)
          · replace h := og_t c_43 h
            refine ww_iload_n B dX8_judge_46 0 rfl ?_
            refine ww_goto B 54 dX8_judge_47 (by decide) ?_
            exact ww_iret B hA hQ hr dX8_judge_54 (q_34.2.1, q_34.2.2.1, q_34.2.2.2.1, q_34.2.2.2.2.1, q_34.2.2.2.2.2.1, q_34.2.2.2.2.2.2.1, q_34.2.2.2.2.2.2.2.1, q_34.2.2.2.2.2.2.2.2.1, q_34.2.2.2.2.2.2.2.2.2) [0, 1, 2, 3, 4, 5, 6, 7, 8, 9] rfl (by decide) (og_p h)
      · replace h := og_f c_26 h
        refine ww_bipush B dX8_judge_29 (v := (-3)) (by decide) ?_
        exact ww_iret B hA hQ hr dX8_judge_31 (f_bears, f_borneBy, f_due, f_gone, f_sunk, f_times, f_whoBore, x_t_day, x_t_reason) [8, 0, 1, 2, 3, 4, 9, 5, 6, 7] rfl (by decide) (og_p h)
    · replace h := og_f c_16 h
      refine ww_bipush B dX8_judge_19 (v := (-5)) (by decide) ?_
      exact ww_iret B hA hQ hr dX8_judge_21 (f_bears, f_borneBy, f_due, f_gone, f_sunk, f_times, f_whoBore, x_t_day, x_t_reason) [8, 0, 1, 2, 3, 4, 9, 5, 6, 7] rfl (by decide) (og_p h)
  · replace h := og_t c_6 h
    refine ww_bipush B dX8_judge_9 (v := (-2)) (by decide) ?_
    exact ww_iret B hA hQ hr dX8_judge_11 (f_bears, f_borneBy, f_due, f_gone, f_sunk, f_times, f_whoBore, x_t_day, x_t_reason) [0, 1, 2, 3, 4, 5, 6, 7, 8, 9] rfl (by decide) (og_p h)
noncomputable def m_X8_layGiving_121 (k12 : Int32 → Int32 → Int32 → Int32 → Int32 → Int32 → (Nat → Int32) → Option (Int32 × ((Nat → Int32)))) (f_may : (Nat → Int32)) (v2 : Int32) (v3 : Int32) (v4 : Int32) (v5 : Int32) (v6 : Int32) (v7 : Int32) (f_gives : (Nat → Int32)) : Option (Int32 × ((Nat → Int32))) := ogl (v7 + (-1)) (fun (v7_121 : Int32) => (k12 v2 v3 v4 v5 v6 v7_121 f_gives))
noncomputable def m_X8_layGiving_110 (k12 : Int32 → Int32 → Int32 → Int32 → Int32 → Int32 → (Nat → Int32) → Option (Int32 × ((Nat → Int32)))) (f_may : (Nat → Int32)) (v2 : Int32) (v3 : Int32) (v4 : Int32) (v5 : Int32) (v7 : Int32) (v8 : Int32) (s0 : Int32) (f_gives : (Nat → Int32)) : Option (Int32 × ((Nat → Int32))) := ogl (v5 ||| ((1 : Int32) <<< ((v8 : Int32) &&& 31))) (fun (v5_119 : Int32) => (m_X8_layGiving_121 k12 f_may v2 v3 v4 v5_119 s0 v7 f_gives))
noncomputable def m_X8_layGiving_109 (k12 : Int32 → Int32 → Int32 → Int32 → Int32 → Int32 → (Nat → Int32) → Option (Int32 × ((Nat → Int32)))) (f_may : (Nat → Int32)) (v2 : Int32) (v3 : Int32) (v4 : Int32) (v5 : Int32) (v7 : Int32) (v8 : Int32) (f_gives : (Nat → Int32)) : Option (Int32 × ((Nat → Int32))) := (m_X8_layGiving_110 k12 f_may v2 v3 v4 v5 v7 v8 0 f_gives)
noncomputable def m_X8_layGiving_50 (k12 : Int32 → Int32 → Int32 → Int32 → Int32 → Int32 → (Nat → Int32) → Option (Int32 × ((Nat → Int32)))) (f_may : (Nat → Int32)) (v2 : Int32) (v3 : Int32) (v4 : Int32) (v5 : Int32) (v6 : Int32) (v7 : Int32) (v8 : Int32) (s1 : Int32) (s2 : Int32) (f_gives : (Nat → Int32)) : Option (Int32 × ((Nat → Int32))) := ogi s1 6 (if 5 ≤ v8 then ((m_X8_layGiving_121 k12 f_may v2 v3 v4 v5 v6 v7 (upd f_gives (Int32.toNatClampNeg s1) s2))) else (if v6 = 0 then ((m_X8_layGiving_109 k12 f_may v2 v3 v4 v5 v7 v8 (upd f_gives (Int32.toNatClampNeg s1) s2))) else (ogb (m_X8_has v2 v7) (fun q_65 => if q_65 = 0 then ((m_X8_layGiving_109 k12 f_may v2 v3 v4 v5 v7 v8 (upd f_gives (Int32.toNatClampNeg s1) s2))) else (ogb (m_X8_has v3 v8) (fun q_74 => if q_74 = 0 then ((m_X8_layGiving_109 k12 f_may v2 v3 v4 v5 v7 v8 (upd f_gives (Int32.toNatClampNeg s1) s2))) else (ogi v7 6 (ogb (m_X8_has (f_may (Int32.toNatClampNeg v7)) v8) (fun q_89 => if q_89 = 0 then ((m_X8_layGiving_109 k12 f_may v2 v3 v4 v5 v7 v8 (upd f_gives (Int32.toNatClampNeg s1) s2))) else (ogb (m_X8_has v5 v8) (fun q_99 => if q_99 = 0 then ((m_X8_layGiving_110 k12 f_may v2 v3 v4 v5 v7 v8 1 (upd f_gives (Int32.toNatClampNeg s1) s2))) else ((m_X8_layGiving_109 k12 f_may v2 v3 v4 v5 v7 v8 (upd f_gives (Int32.toNatClampNeg s1) s2))))))))))))))
noncomputable def m_X8_layGiving_12b (k12 : Int32 → Int32 → Int32 → Int32 → Int32 → Int32 → (Nat → Int32) → Option (Int32 × ((Nat → Int32)))) (f_may : (Nat → Int32)) (v2 : Int32) (v3 : Int32) (v4 : Int32) (v5 : Int32) (v6 : Int32) (v7 : Int32) (f_gives : (Nat → Int32)) : Option (Int32 × ((Nat → Int32))) := if v7 < 0 then (ogy (v6 = 0 ∨ v6 = 1) (some (v6, f_gives))) else (ogl (v4 - v4 / 6 * 6) (fun (v8_22 : Int32) => ogl (v4 / 6) (fun (v4_29 : Int32) => if v8_22 = 5 then ((m_X8_layGiving_50 k12 f_may v2 v3 v4_29 v5 v6 v7 v8_22 v7 (-6) f_gives)) else ((m_X8_layGiving_50 k12 f_may v2 v3 v4_29 v5 v6 v7 v8_22 v7 v8_22 f_gives)))))
noncomputable def m_X8_layGiving_12 (f_may : (Nat → Int32)) (fuel : Nat) : Int32 → Int32 → Int32 → Int32 → Int32 → Int32 → (Nat → Int32) → Option (Int32 × ((Nat → Int32))) := Nat.rec (fun _ _ _ _ _ _ _ => none) (fun _ k12 => m_X8_layGiving_12b k12 f_may) fuel
noncomputable def m_X8_layGiving (f_may : (Nat → Int32)) (f_gives : (Nat → Int32)) (v1 : Int32) (v2 : Int32) (v3 : Int32) : Option (Int32 × ((Nat → Int32))) := (m_X8_layGiving_12 f_may 1000000 v2 v3 v1 0 1 5 f_gives)
set_option maxHeartbeats 4000000 in
set_option maxRecDepth 100000 in
theorem c_X8_layGiving (l : Launch) (D : va_G) (cI cZ : ClassId) (a_t a_gives a_may b_voyage b_lucky b_worths b_ranks b_pad b_bears b_due b_borneBy b_gone b_sunk b_times b_whoBore b_best b_holds b_refused b_sums b_image b_isKept : Nat) (f_gives : (Nat → Int32)) (f_may : (Nat → Int32)) (x_t_signs : Int32) (x_t_day : Int32) (x_t_reason : Int32) (x_t_asked : Int32) (v1 : Int32) (v2 : Int32) (v3 : Int32) {res : (Int32 × ((Nat → Int32)))} (h : m_X8_layGiving f_may f_gives v1 v2 v3 = some res) : CT l yX8_layGiving wsX8_layGiving ({ frames := 1, cells := 0, slots := 0, locals := 21 } : Room) D cI cZ [.ref a_t, .int v1, .int v2, .int v3] [(a_t, .inr (8, [.ref a_may, .ref b_voyage, .ref b_lucky, .ref b_worths, .ref b_ranks, .int x_t_signs, .ref b_pad, .int x_t_day, .int x_t_reason, .ref b_bears, .ref b_due, .ref b_borneBy, .ref b_gone, .ref b_sunk, .ref b_times, .int x_t_asked, .ref b_whoBore, .ref a_gives, .ref b_best, .ref b_holds, .ref b_refused, .ref b_sums, .ref b_image, .ref b_isKept])), (a_gives, .inl (cI, 6, .inl f_gives)), (a_may, .inl (cI, 6, .inl f_may))] (QI D [(a_t, .inr (8, [.ref a_may, .ref b_voyage, .ref b_lucky, .ref b_worths, .ref b_ranks, .int x_t_signs, .ref b_pad, .int x_t_day, .int x_t_reason, .ref b_bears, .ref b_due, .ref b_borneBy, .ref b_gone, .ref b_sunk, .ref b_times, .int x_t_asked, .ref b_whoBore, .ref a_gives, .ref b_best, .ref b_holds, .ref b_refused, .ref b_sums, .ref b_image, .ref b_isKept])), (a_gives, .inl (cI, 6, .inl f_gives)), (a_may, .inl (cI, 6, .inl f_may))] (fun (r : Int32) (u : (Nat → Int32)) => r = res.1 ∧ u = res.2) (fun (u : (Nat → Int32)) => [(a_t, .inr (8, [.ref a_may, .ref b_voyage, .ref b_lucky, .ref b_worths, .ref b_ranks, .int x_t_signs, .ref b_pad, .int x_t_day, .int x_t_reason, .ref b_bears, .ref b_due, .ref b_borneBy, .ref b_gone, .ref b_sunk, .ref b_times, .int x_t_asked, .ref b_whoBore, .ref a_gives, .ref b_best, .ref b_holds, .ref b_refused, .ref b_sums, .ref b_image, .ref b_isKept])), (a_gives, .inl (cI, 6, .inl u)), (a_may, .inl (cI, 6, .inl f_may))])) 0 0 := by
  have h : ((m_X8_layGiving_12 f_may 1000000 v2 v3 v1 0 1 5 f_gives) : Option (Int32 × ((Nat → Int32)))) = some res := h
  refine ct_entry (cc := cX8_layGiving) (nl := 9) (ret := (some .boolean)) (own := RX8) (lv0 := [(0, .ref a_t), (1, .int v1), (2, .int v2), (3, .int v3)]) (by decide) rfl rfl (Nat.le_of_ble_eq_true rfl) rfl ?_
  intro p e s m args below meth c A Q hA hQ hr hnm B
  have iX8 : ∀ w ∈ wsX80, w ∈ wsX8_layGiving := by decide +kernel
  have cut_12 : ∀ (fuel : Nat) (v2 : Int32) (v3 : Int32) (v4 : Int32) (v5 : Int32) (v6 : Int32) (v7 : Int32) (f_gives : (Nat → Int32)), m_X8_layGiving_12 f_may fuel v2 v3 v4 v5 v6 v7 f_gives = some res → WW p l e (headSpec wsX8_layGiving ({ frames := 1, cells := 0, slots := 0, locals := 21 } : Room)).room s m args below meth c D A 9 0 0 Q [(a_t, .inr (8, [.ref a_may, .ref b_voyage, .ref b_lucky, .ref b_worths, .ref b_ranks, .int x_t_signs, .ref b_pad, .int x_t_day, .int x_t_reason, .ref b_bears, .ref b_due, .ref b_borneBy, .ref b_gone, .ref b_sunk, .ref b_times, .int x_t_asked, .ref b_whoBore, .ref a_gives, .ref b_best, .ref b_holds, .ref b_refused, .ref b_sums, .ref b_image, .ref b_isKept])), (a_gives, .inl (cI, 6, .inl f_gives)), (a_may, .inl (cI, 6, .inl f_may))] [(0, .ref a_t), (2, .int v2), (3, .int v3), (4, .int v4), (5, .int v5), (6, .int v6), (7, .int v7)] [] 12 := by
    intro fuel_12
    induction fuel_12 with
    | zero => intro v2 v3 v4 v5 v6 v7 f_gives h; exact og_0 h
    | succ fuel_12 ih_12 =>
      have cut_121 : ∀ (v2 : Int32) (v3 : Int32) (v4 : Int32) (v5 : Int32) (v6 : Int32) (v7 : Int32) (f_gives : (Nat → Int32)), m_X8_layGiving_121 (m_X8_layGiving_12 f_may fuel_12) f_may v2 v3 v4 v5 v6 v7 f_gives = some res → WW p l e (headSpec wsX8_layGiving ({ frames := 1, cells := 0, slots := 0, locals := 21 } : Room)).room s m args below meth c D A 9 0 0 Q [(a_t, .inr (8, [.ref a_may, .ref b_voyage, .ref b_lucky, .ref b_worths, .ref b_ranks, .int x_t_signs, .ref b_pad, .int x_t_day, .int x_t_reason, .ref b_bears, .ref b_due, .ref b_borneBy, .ref b_gone, .ref b_sunk, .ref b_times, .int x_t_asked, .ref b_whoBore, .ref a_gives, .ref b_best, .ref b_holds, .ref b_refused, .ref b_sums, .ref b_image, .ref b_isKept])), (a_gives, .inl (cI, 6, .inl f_gives)), (a_may, .inl (cI, 6, .inl f_may))] [(0, .ref a_t), (2, .int v2), (3, .int v3), (4, .int v4), (5, .int v5), (6, .int v6), (7, .int v7)] [] 121 := by
        intro v2 v3 v4 v5 v6 v7 f_gives h
        replace h : (ogl (v7 + (-1)) (fun (v7_121 : Int32) => ((m_X8_layGiving_12 f_may fuel_12) v2 v3 v4 v5 v6 v7_121 f_gives)) : Option (Int32 × ((Nat → Int32)))) = some res := h
        obtain ⟨v7_121, ev7_121⟩ : ∃ y : Int32, y = (v7 + (-1)) := ⟨_, rfl⟩
        refine ww_iinc B dX8_layGiving_121 6 rfl (v := v7_121) (by rw [ev7_121]; rfl) (by decide) (lv' := [(7, .int v7_121), (0, .ref a_t), (2, .int v2), (3, .int v3), (4, .int v4), (5, .int v5), (6, .int v6)]) rfl ?_
        replace h := og_l ev7_121 h
        refine ww_goto B 12 dX8_layGiving_124 (by decide) ?_
        refine ww_lsel (lv' := [(0, .ref a_t), (2, .int v2), (3, .int v3), (4, .int v4), (5, .int v5), (6, .int v6), (7, .int v7_121)]) [1, 2, 3, 4, 5, 6, 0] rfl ?_
        exact ih_12 _ _ _ _ _ _ _ h
      have cut_110 : ∀ (v2 : Int32) (v3 : Int32) (v4 : Int32) (v5 : Int32) (v7 : Int32) (v8 : Int32) (s0 : Int32) (f_gives : (Nat → Int32)), m_X8_layGiving_110 (m_X8_layGiving_12 f_may fuel_12) f_may v2 v3 v4 v5 v7 v8 s0 f_gives = some res → WW p l e (headSpec wsX8_layGiving ({ frames := 1, cells := 0, slots := 0, locals := 21 } : Room)).room s m args below meth c D A 9 0 0 Q [(a_t, .inr (8, [.ref a_may, .ref b_voyage, .ref b_lucky, .ref b_worths, .ref b_ranks, .int x_t_signs, .ref b_pad, .int x_t_day, .int x_t_reason, .ref b_bears, .ref b_due, .ref b_borneBy, .ref b_gone, .ref b_sunk, .ref b_times, .int x_t_asked, .ref b_whoBore, .ref a_gives, .ref b_best, .ref b_holds, .ref b_refused, .ref b_sums, .ref b_image, .ref b_isKept])), (a_gives, .inl (cI, 6, .inl f_gives)), (a_may, .inl (cI, 6, .inl f_may))] [(0, .ref a_t), (2, .int v2), (3, .int v3), (4, .int v4), (5, .int v5), (7, .int v7), (8, .int v8)] [.int s0] 110 := by
        intro v2 v3 v4 v5 v7 v8 s0 f_gives h
        replace h : (ogl (v5 ||| ((1 : Int32) <<< ((v8 : Int32) &&& 31))) (fun (v5_119 : Int32) => (m_X8_layGiving_121 (m_X8_layGiving_12 f_may fuel_12) f_may v2 v3 v4 v5_119 s0 v7 f_gives)) : Option (Int32 × ((Nat → Int32)))) = some res := h
        refine ww_istore B dX8_layGiving_110 (lv' := [(6, .int s0), (0, .ref a_t), (2, .int v2), (3, .int v3), (4, .int v4), (5, .int v5), (7, .int v7), (8, .int v8)]) (by decide) rfl ?_
        refine ww_iload B dX8_layGiving_112 5 rfl ?_
        refine ww_iconst B dX8_layGiving_114 (v := 1) (by decide) ?_
        refine ww_iload B dX8_layGiving_115 7 rfl ?_
        refine ww_ishl B dX8_layGiving_117 ?_
        refine ww_ior B dX8_layGiving_118 ?_
        refine ww_topi (fun v5_119 ev5_119 => ?_)
        replace h := og_l ev5_119 h
        refine ww_istore B dX8_layGiving_119 (lv' := [(5, .int v5_119), (6, .int s0), (0, .ref a_t), (2, .int v2), (3, .int v3), (4, .int v4), (7, .int v7), (8, .int v8)]) (by decide) rfl ?_
        refine ww_lsel (lv' := [(0, .ref a_t), (2, .int v2), (3, .int v3), (4, .int v4), (5, .int v5_119), (6, .int s0), (7, .int v7)]) [2, 3, 4, 5, 0, 1, 6] rfl ?_
        exact cut_121 _ _ _ _ _ _ _ h
      have cut_109 : ∀ (v2 : Int32) (v3 : Int32) (v4 : Int32) (v5 : Int32) (v7 : Int32) (v8 : Int32) (f_gives : (Nat → Int32)), m_X8_layGiving_109 (m_X8_layGiving_12 f_may fuel_12) f_may v2 v3 v4 v5 v7 v8 f_gives = some res → WW p l e (headSpec wsX8_layGiving ({ frames := 1, cells := 0, slots := 0, locals := 21 } : Room)).room s m args below meth c D A 9 0 0 Q [(a_t, .inr (8, [.ref a_may, .ref b_voyage, .ref b_lucky, .ref b_worths, .ref b_ranks, .int x_t_signs, .ref b_pad, .int x_t_day, .int x_t_reason, .ref b_bears, .ref b_due, .ref b_borneBy, .ref b_gone, .ref b_sunk, .ref b_times, .int x_t_asked, .ref b_whoBore, .ref a_gives, .ref b_best, .ref b_holds, .ref b_refused, .ref b_sums, .ref b_image, .ref b_isKept])), (a_gives, .inl (cI, 6, .inl f_gives)), (a_may, .inl (cI, 6, .inl f_may))] [(0, .ref a_t), (2, .int v2), (3, .int v3), (4, .int v4), (5, .int v5), (7, .int v7), (8, .int v8)] [] 109 := by
        intro v2 v3 v4 v5 v7 v8 f_gives h
        replace h : ((m_X8_layGiving_110 (m_X8_layGiving_12 f_may fuel_12) f_may v2 v3 v4 v5 v7 v8 0 f_gives) : Option (Int32 × ((Nat → Int32)))) = some res := h
        refine ww_iconst B dX8_layGiving_109 (v := 0) (by decide) ?_
        exact cut_110 _ _ _ _ _ _ _ _ h
      have cut_50 : ∀ (v2 : Int32) (v3 : Int32) (v4 : Int32) (v5 : Int32) (v6 : Int32) (v7 : Int32) (v8 : Int32) (s1 : Int32) (s2 : Int32) (f_gives : (Nat → Int32)), m_X8_layGiving_50 (m_X8_layGiving_12 f_may fuel_12) f_may v2 v3 v4 v5 v6 v7 v8 s1 s2 f_gives = some res → WW p l e (headSpec wsX8_layGiving ({ frames := 1, cells := 0, slots := 0, locals := 21 } : Room)).room s m args below meth c D A 9 0 0 Q [(a_t, .inr (8, [.ref a_may, .ref b_voyage, .ref b_lucky, .ref b_worths, .ref b_ranks, .int x_t_signs, .ref b_pad, .int x_t_day, .int x_t_reason, .ref b_bears, .ref b_due, .ref b_borneBy, .ref b_gone, .ref b_sunk, .ref b_times, .int x_t_asked, .ref b_whoBore, .ref a_gives, .ref b_best, .ref b_holds, .ref b_refused, .ref b_sums, .ref b_image, .ref b_isKept])), (a_gives, .inl (cI, 6, .inl f_gives)), (a_may, .inl (cI, 6, .inl f_may))] [(0, .ref a_t), (2, .int v2), (3, .int v3), (4, .int v4), (5, .int v5), (6, .int v6), (7, .int v7), (8, .int v8)] [.int s2, .int s1, .ref a_gives] 50 := by
        intro v2 v3 v4 v5 v6 v7 v8 s1 s2 f_gives h
        replace h : (ogi s1 6 (if 5 ≤ v8 then ((m_X8_layGiving_121 (m_X8_layGiving_12 f_may fuel_12) f_may v2 v3 v4 v5 v6 v7 (upd f_gives (Int32.toNatClampNeg s1) s2))) else (if v6 = 0 then ((m_X8_layGiving_109 (m_X8_layGiving_12 f_may fuel_12) f_may v2 v3 v4 v5 v7 v8 (upd f_gives (Int32.toNatClampNeg s1) s2))) else (ogb (m_X8_has v2 v7) (fun q_65 => if q_65 = 0 then ((m_X8_layGiving_109 (m_X8_layGiving_12 f_may fuel_12) f_may v2 v3 v4 v5 v7 v8 (upd f_gives (Int32.toNatClampNeg s1) s2))) else (ogb (m_X8_has v3 v8) (fun q_74 => if q_74 = 0 then ((m_X8_layGiving_109 (m_X8_layGiving_12 f_may fuel_12) f_may v2 v3 v4 v5 v7 v8 (upd f_gives (Int32.toNatClampNeg s1) s2))) else (ogi v7 6 (ogb (m_X8_has (f_may (Int32.toNatClampNeg v7)) v8) (fun q_89 => if q_89 = 0 then ((m_X8_layGiving_109 (m_X8_layGiving_12 f_may fuel_12) f_may v2 v3 v4 v5 v7 v8 (upd f_gives (Int32.toNatClampNeg s1) s2))) else (ogb (m_X8_has v5 v8) (fun q_99 => if q_99 = 0 then ((m_X8_layGiving_110 (m_X8_layGiving_12 f_may fuel_12) f_may v2 v3 v4 v5 v7 v8 1 (upd f_gives (Int32.toNatClampNeg s1) s2))) else ((m_X8_layGiving_109 (m_X8_layGiving_12 f_may fuel_12) f_may v2 v3 v4 v5 v7 v8 (upd f_gives (Int32.toNatClampNeg s1) s2)))))))))))))) : Option (Int32 × ((Nat → Int32)))) = some res := h
        obtain ⟨i_50, h⟩ := og_i h
        refine ww_iast B 1 rfl i_50 dX8_layGiving_50 (ws' := [(a_t, .inr (8, [.ref a_may, .ref b_voyage, .ref b_lucky, .ref b_worths, .ref b_ranks, .int x_t_signs, .ref b_pad, .int x_t_day, .int x_t_reason, .ref b_bears, .ref b_due, .ref b_borneBy, .ref b_gone, .ref b_sunk, .ref b_times, .int x_t_asked, .ref b_whoBore, .ref a_gives, .ref b_best, .ref b_holds, .ref b_refused, .ref b_sums, .ref b_image, .ref b_isKept])), (a_gives, .inl (cI, 6, .inl (upd f_gives (Int32.toNatClampNeg s1) s2))), (a_may, .inl (cI, 6, .inl f_may))]) rfl ?_
        refine ww_iload B dX8_layGiving_51 7 rfl ?_
        refine ww_iconst B dX8_layGiving_53 (v := 5) (by decide) ?_
        refine ww_icmp_ge B 121 dX8_layGiving_54 (by decide) (fun c_54 => ?_) (fun c_54 => ?_)
        · replace h := og_t c_54 h
          refine ww_lsel (lv' := [(0, .ref a_t), (2, .int v2), (3, .int v3), (4, .int v4), (5, .int v5), (6, .int v6), (7, .int v7)]) [0, 1, 2, 3, 4, 5, 6] rfl ?_
          exact cut_121 _ _ _ _ _ _ _ h
        · replace h := og_f c_54 h
          refine ww_iload B dX8_layGiving_57 5 rfl ?_
          refine ww_if_eq B 109 dX8_layGiving_59 (by decide) (fun c_59 => ?_) (fun c_59 => ?_)
          · replace h := og_t c_59 h
            refine ww_lsel (lv' := [(0, .ref a_t), (2, .int v2), (3, .int v3), (4, .int v4), (5, .int v5), (7, .int v7), (8, .int v8)]) [0, 1, 2, 3, 4, 6, 7] rfl ?_
            exact cut_109 _ _ _ _ _ _ _ h
          · replace h := og_f c_59 h
            refine ww_iload_n B dX8_layGiving_62 1 rfl ?_
            refine ww_iload B dX8_layGiving_63 6 rfl ?_
            obtain ⟨q_65, hq_65, h⟩ := og_b h
            refine ww_ci0 B (k' := 0) (n' := 0) rfl rfl [] [0, 1, 2] (wr := [(a_t, .inr (8, [.ref a_may, .ref b_voyage, .ref b_lucky, .ref b_worths, .ref b_ranks, .int x_t_signs, .ref b_pad, .int x_t_day, .int x_t_reason, .ref b_bears, .ref b_due, .ref b_borneBy, .ref b_gone, .ref b_sunk, .ref b_times, .int x_t_asked, .ref b_whoBore, .ref a_gives, .ref b_best, .ref b_holds, .ref b_refused, .ref b_sums, .ref b_image, .ref b_isKept])), (a_gives, .inl (cI, 6, .inl (upd f_gives (Int32.toNatClampNeg s1) s2))), (a_may, .inl (cI, 6, .inl f_may))]) (st := []) rfl rfl (by decide) (rr_S B (c_X8_has l D cI cZ v2 v7 hq_65) gX8_layGiving_X8_has rfl rfl rfl (N := 2) rfl (by decide +kernel) ⟨Nat.le_of_ble_eq_true rfl, Nat.le_of_ble_eq_true rfl⟩ rfl dX8_layGiving_65 (Nat.le_of_ble_eq_true rfl) ⟨Nat.le_of_ble_eq_true rfl, Nat.le_of_ble_eq_true rfl⟩) (ws' := [(a_t, .inr (8, [.ref a_may, .ref b_voyage, .ref b_lucky, .ref b_worths, .ref b_ranks, .int x_t_signs, .ref b_pad, .int x_t_day, .int x_t_reason, .ref b_bears, .ref b_due, .ref b_borneBy, .ref b_gone, .ref b_sunk, .ref b_times, .int x_t_asked, .ref b_whoBore, .ref a_gives, .ref b_best, .ref b_holds, .ref b_refused, .ref b_sums, .ref b_image, .ref b_isKept])), (a_gives, .inl (cI, 6, .inl (upd f_gives (Int32.toNatClampNeg s1) s2))), (a_may, .inl (cI, 6, .inl f_may))]) rfl ?_
            refine ww_if_eq B 109 dX8_layGiving_68 (by decide) (fun c_68 => ?_) (fun c_68 => ?_)
            · replace h := og_t c_68 h
              refine ww_lsel (lv' := [(0, .ref a_t), (2, .int v2), (3, .int v3), (4, .int v4), (5, .int v5), (7, .int v7), (8, .int v8)]) [0, 1, 2, 3, 4, 6, 7] rfl ?_
              exact cut_109 _ _ _ _ _ _ _ h
            · replace h := og_f c_68 h
              refine ww_iload_n B dX8_layGiving_71 2 rfl ?_
              refine ww_iload B dX8_layGiving_72 7 rfl ?_
              obtain ⟨q_74, hq_74, h⟩ := og_b h
              refine ww_ci0 B (k' := 0) (n' := 0) rfl rfl [] [0, 1, 2] (wr := [(a_t, .inr (8, [.ref a_may, .ref b_voyage, .ref b_lucky, .ref b_worths, .ref b_ranks, .int x_t_signs, .ref b_pad, .int x_t_day, .int x_t_reason, .ref b_bears, .ref b_due, .ref b_borneBy, .ref b_gone, .ref b_sunk, .ref b_times, .int x_t_asked, .ref b_whoBore, .ref a_gives, .ref b_best, .ref b_holds, .ref b_refused, .ref b_sums, .ref b_image, .ref b_isKept])), (a_gives, .inl (cI, 6, .inl (upd f_gives (Int32.toNatClampNeg s1) s2))), (a_may, .inl (cI, 6, .inl f_may))]) (st := []) rfl rfl (by decide) (rr_S B (c_X8_has l D cI cZ v3 v8 hq_74) gX8_layGiving_X8_has rfl rfl rfl (N := 2) rfl (by decide +kernel) ⟨Nat.le_of_ble_eq_true rfl, Nat.le_of_ble_eq_true rfl⟩ rfl dX8_layGiving_74 (Nat.le_of_ble_eq_true rfl) ⟨Nat.le_of_ble_eq_true rfl, Nat.le_of_ble_eq_true rfl⟩) (ws' := [(a_t, .inr (8, [.ref a_may, .ref b_voyage, .ref b_lucky, .ref b_worths, .ref b_ranks, .int x_t_signs, .ref b_pad, .int x_t_day, .int x_t_reason, .ref b_bears, .ref b_due, .ref b_borneBy, .ref b_gone, .ref b_sunk, .ref b_times, .int x_t_asked, .ref b_whoBore, .ref a_gives, .ref b_best, .ref b_holds, .ref b_refused, .ref b_sums, .ref b_image, .ref b_isKept])), (a_gives, .inl (cI, 6, .inl (upd f_gives (Int32.toNatClampNeg s1) s2))), (a_may, .inl (cI, 6, .inl f_may))]) rfl ?_
              refine ww_if_eq B 109 dX8_layGiving_77 (by decide) (fun c_77 => ?_) (fun c_77 => ?_)
              · replace h := og_t c_77 h
                refine ww_lsel (lv' := [(0, .ref a_t), (2, .int v2), (3, .int v3), (4, .int v4), (5, .int v5), (7, .int v7), (8, .int v8)]) [0, 1, 2, 3, 4, 6, 7] rfl ?_
                exact cut_109 _ _ _ _ _ _ _ h
              · replace h := og_f c_77 h
                refine ww_aload_n B dX8_layGiving_80 0 rfl ?_
                refine ww_get (ci := 8) (T := TX8) (C := RX8) (N := 24) B iX8 0 rfl rfl 0 (by decide) (by decide +kernel) rfl rfl dX8_layGiving_81 ?_
                refine ww_iload B dX8_layGiving_84 6 rfl ?_
                obtain ⟨i_86, h⟩ := og_i h
                refine ww_iald B 2 rfl i_86 dX8_layGiving_86 ?_
                refine ww_iload B dX8_layGiving_87 7 rfl ?_
                obtain ⟨q_89, hq_89, h⟩ := og_b h
                refine ww_ci0 B (k' := 0) (n' := 0) rfl rfl [] [0, 1, 2] (wr := [(a_t, .inr (8, [.ref a_may, .ref b_voyage, .ref b_lucky, .ref b_worths, .ref b_ranks, .int x_t_signs, .ref b_pad, .int x_t_day, .int x_t_reason, .ref b_bears, .ref b_due, .ref b_borneBy, .ref b_gone, .ref b_sunk, .ref b_times, .int x_t_asked, .ref b_whoBore, .ref a_gives, .ref b_best, .ref b_holds, .ref b_refused, .ref b_sums, .ref b_image, .ref b_isKept])), (a_gives, .inl (cI, 6, .inl (upd f_gives (Int32.toNatClampNeg s1) s2))), (a_may, .inl (cI, 6, .inl f_may))]) (st := []) rfl rfl (by decide) (rr_S B (c_X8_has l D cI cZ (f_may (Int32.toNatClampNeg v7)) v8 hq_89) gX8_layGiving_X8_has rfl rfl rfl (N := 2) rfl (by decide +kernel) ⟨Nat.le_of_ble_eq_true rfl, Nat.le_of_ble_eq_true rfl⟩ rfl dX8_layGiving_89 (Nat.le_of_ble_eq_true rfl) ⟨Nat.le_of_ble_eq_true rfl, Nat.le_of_ble_eq_true rfl⟩) (ws' := [(a_t, .inr (8, [.ref a_may, .ref b_voyage, .ref b_lucky, .ref b_worths, .ref b_ranks, .int x_t_signs, .ref b_pad, .int x_t_day, .int x_t_reason, .ref b_bears, .ref b_due, .ref b_borneBy, .ref b_gone, .ref b_sunk, .ref b_times, .int x_t_asked, .ref b_whoBore, .ref a_gives, .ref b_best, .ref b_holds, .ref b_refused, .ref b_sums, .ref b_image, .ref b_isKept])), (a_gives, .inl (cI, 6, .inl (upd f_gives (Int32.toNatClampNeg s1) s2))), (a_may, .inl (cI, 6, .inl f_may))]) rfl ?_
                refine ww_if_eq B 109 dX8_layGiving_92 (by decide) (fun c_92 => ?_) (fun c_92 => ?_)
                · replace h := og_t c_92 h
                  refine ww_lsel (lv' := [(0, .ref a_t), (2, .int v2), (3, .int v3), (4, .int v4), (5, .int v5), (7, .int v7), (8, .int v8)]) [0, 1, 2, 3, 4, 6, 7] rfl ?_
                  exact cut_109 _ _ _ _ _ _ _ h
                · replace h := og_f c_92 h
                  refine ww_iload B dX8_layGiving_95 4 rfl ?_
                  refine ww_iload B dX8_layGiving_97 7 rfl ?_
                  obtain ⟨q_99, hq_99, h⟩ := og_b h
                  refine ww_ci0 B (k' := 0) (n' := 0) rfl rfl [] [0, 1, 2] (wr := [(a_t, .inr (8, [.ref a_may, .ref b_voyage, .ref b_lucky, .ref b_worths, .ref b_ranks, .int x_t_signs, .ref b_pad, .int x_t_day, .int x_t_reason, .ref b_bears, .ref b_due, .ref b_borneBy, .ref b_gone, .ref b_sunk, .ref b_times, .int x_t_asked, .ref b_whoBore, .ref a_gives, .ref b_best, .ref b_holds, .ref b_refused, .ref b_sums, .ref b_image, .ref b_isKept])), (a_gives, .inl (cI, 6, .inl (upd f_gives (Int32.toNatClampNeg s1) s2))), (a_may, .inl (cI, 6, .inl f_may))]) (st := []) rfl rfl (by decide) (rr_S B (c_X8_has l D cI cZ v5 v8 hq_99) gX8_layGiving_X8_has rfl rfl rfl (N := 2) rfl (by decide +kernel) ⟨Nat.le_of_ble_eq_true rfl, Nat.le_of_ble_eq_true rfl⟩ rfl dX8_layGiving_99 (Nat.le_of_ble_eq_true rfl) ⟨Nat.le_of_ble_eq_true rfl, Nat.le_of_ble_eq_true rfl⟩) (ws' := [(a_t, .inr (8, [.ref a_may, .ref b_voyage, .ref b_lucky, .ref b_worths, .ref b_ranks, .int x_t_signs, .ref b_pad, .int x_t_day, .int x_t_reason, .ref b_bears, .ref b_due, .ref b_borneBy, .ref b_gone, .ref b_sunk, .ref b_times, .int x_t_asked, .ref b_whoBore, .ref a_gives, .ref b_best, .ref b_holds, .ref b_refused, .ref b_sums, .ref b_image, .ref b_isKept])), (a_gives, .inl (cI, 6, .inl (upd f_gives (Int32.toNatClampNeg s1) s2))), (a_may, .inl (cI, 6, .inl f_may))]) rfl ?_
                  refine ww_if_ne B 109 dX8_layGiving_102 (by decide) (fun c_102 => ?_) (fun c_102 => ?_)
                  · replace h := og_f c_102 h
                    refine ww_lsel (lv' := [(0, .ref a_t), (2, .int v2), (3, .int v3), (4, .int v4), (5, .int v5), (7, .int v7), (8, .int v8)]) [0, 1, 2, 3, 4, 6, 7] rfl ?_
                    exact cut_109 _ _ _ _ _ _ _ h
                  · replace h := og_t c_102 h
                    refine ww_iconst B dX8_layGiving_105 (v := 1) (by decide) ?_
                    refine ww_goto B 110 dX8_layGiving_106 (by decide) ?_
                    refine ww_lsel (lv' := [(0, .ref a_t), (2, .int v2), (3, .int v3), (4, .int v4), (5, .int v5), (7, .int v7), (8, .int v8)]) [0, 1, 2, 3, 4, 6, 7] rfl ?_
                    exact cut_110 _ _ _ _ _ _ _ _ h
      intro v2 v3 v4 v5 v6 v7 f_gives h
      replace h : (if v7 < 0 then (ogy (v6 = 0 ∨ v6 = 1) (some (v6, f_gives))) else (ogl (v4 - v4 / 6 * 6) (fun (v8_22 : Int32) => ogl (v4 / 6) (fun (v4_29 : Int32) => if v8_22 = 5 then ((m_X8_layGiving_50 (m_X8_layGiving_12 f_may fuel_12) f_may v2 v3 v4_29 v5 v6 v7 v8_22 v7 (-6) f_gives)) else ((m_X8_layGiving_50 (m_X8_layGiving_12 f_may fuel_12) f_may v2 v3 v4_29 v5 v6 v7 v8_22 v7 v8_22 f_gives))))) : Option (Int32 × ((Nat → Int32)))) = some res := h
      refine ww_iload B dX8_layGiving_12 6 rfl ?_
      refine ww_if_lt B 127 dX8_layGiving_14 (by decide) (fun c_14 => ?_) (fun c_14 => ?_)
      · replace h := og_t c_14 h
        refine ww_iload B dX8_layGiving_127 5 rfl ?_
        obtain ⟨z_129, h⟩ := og_y h
        exact ww_zret B hA hQ hr z_129 dX8_layGiving_129 f_gives [0, 1, 2] rfl (by decide) (og_p h)
      · replace h := og_f c_14 h
        refine ww_iload B dX8_layGiving_17 3 rfl ?_
        refine ww_bipush B dX8_layGiving_19 (v := 6) (by decide) ?_
        refine ww_irem B dX8_layGiving_21 (by decide) ?_
        refine ww_topi (fun v8_22 ev8_22 => ?_)
        replace h := og_l ev8_22 h
        refine ww_istore B dX8_layGiving_22 (lv' := [(8, .int v8_22), (0, .ref a_t), (2, .int v2), (3, .int v3), (4, .int v4), (5, .int v5), (6, .int v6), (7, .int v7)]) (by decide) rfl ?_
        refine ww_iload B dX8_layGiving_24 4 rfl ?_
        refine ww_bipush B dX8_layGiving_26 (v := 6) (by decide) ?_
        refine ww_idiv B dX8_layGiving_28 (by decide) ?_
        refine ww_topi (fun v4_29 ev4_29 => ?_)
        replace h := og_l ev4_29 h
        refine ww_istore B dX8_layGiving_29 (lv' := [(4, .int v4_29), (8, .int v8_22), (0, .ref a_t), (2, .int v2), (3, .int v3), (5, .int v5), (6, .int v6), (7, .int v7)]) (by decide) rfl ?_
        refine ww_aload_n B dX8_layGiving_31 2 rfl ?_
        refine ww_get (ci := 8) (T := TX8) (C := RX8) (N := 24) B iX8 0 rfl rfl 17 (by decide) (by decide +kernel) rfl rfl dX8_layGiving_32 ?_
        refine ww_iload B dX8_layGiving_35 7 rfl ?_
        refine ww_iload B dX8_layGiving_37 1 rfl ?_
        refine ww_iconst B dX8_layGiving_39 (v := 5) (by decide) ?_
        refine ww_icmp_ne B 48 dX8_layGiving_40 (by decide) (fun c_40 => ?_) (fun c_40 => ?_)
        · replace h := og_f c_40 h
          refine ww_iload B dX8_layGiving_48 1 rfl ?_
          refine ww_lsel (lv' := [(0, .ref a_t), (2, .int v2), (3, .int v3), (4, .int v4_29), (5, .int v5), (6, .int v6), (7, .int v7), (8, .int v8_22)]) [2, 3, 4, 0, 5, 6, 7, 1] rfl ?_
          exact cut_50 _ _ _ _ _ _ _ _ _ _ h
        · replace h := og_t c_40 h
          refine ww_bipush B dX8_layGiving_43 (v := (-6)) (by decide) ?_
          refine ww_goto B 50 dX8_layGiving_45 (by decide) ?_
          refine ww_lsel (lv' := [(0, .ref a_t), (2, .int v2), (3, .int v3), (4, .int v4_29), (5, .int v5), (6, .int v6), (7, .int v7), (8, .int v8_22)]) [2, 3, 4, 0, 5, 6, 7, 1] rfl ?_
          exact cut_50 _ _ _ _ _ _ _ _ _ _ h
  refine ww_iload_n B dX8_layGiving_0 1 rfl ?_
  refine ww_istore B dX8_layGiving_1 (lv' := [(4, .int v1), (0, .ref a_t), (1, .int v1), (2, .int v2), (3, .int v3)]) (by decide) rfl ?_
  refine ww_iconst B dX8_layGiving_3 (v := 0) (by decide) ?_
  refine ww_istore B dX8_layGiving_4 (lv' := [(5, .int 0), (4, .int v1), (0, .ref a_t), (1, .int v1), (2, .int v2), (3, .int v3)]) (by decide) rfl ?_
  refine ww_iconst B dX8_layGiving_6 (v := 1) (by decide) ?_
  refine ww_istore B dX8_layGiving_7 (lv' := [(6, .int 1), (5, .int 0), (4, .int v1), (0, .ref a_t), (1, .int v1), (2, .int v2), (3, .int v3)]) (by decide) rfl ?_
  refine ww_iconst B dX8_layGiving_9 (v := 5) (by decide) ?_
  refine ww_istore B dX8_layGiving_10 (lv' := [(7, .int 5), (6, .int 1), (5, .int 0), (4, .int v1), (0, .ref a_t), (1, .int v1), (2, .int v2), (3, .int v3)]) (by decide) rfl ?_
  refine ww_lsel (lv' := [(0, .ref a_t), (2, .int v2), (3, .int v3), (4, .int v1), (5, .int 0), (6, .int 1), (7, .int 5)]) [4, 6, 7, 3, 2, 1, 0] rfl ?_
  exact cut_12 _ _ _ _ _ _ _ _ h
noncomputable def m_X8_layNumber_79 (k23 : Int32 → Int32 → Int32 → Int32 → Int32 → Int32 → Int32 → (Nat → Int32) → Option (Int32 × ((Nat → Int32)))) (f_may : (Nat → Int32)) (v2 : Int32) (v3 : Int32) (v4 : Int32) (v6 : Int32) (v7 : Int32) (v8 : Int32) (s0 : Int32) (s1 : Int32) (f_gives : (Nat → Int32)) : Option (Int32 × ((Nat → Int32))) := ogl (s0 + (s1 * v6)) (fun (v5_83 : Int32) => ogl (v6 * 6) (fun (v6_90 : Int32) => ogl (v8 + (-1)) (fun (v8_92 : Int32) => (k23 v2 v3 v4 v5_83 v6_90 v7 v8_92 f_gives))))
noncomputable def m_X8_layNumber_62 (k23 : Int32 → Int32 → Int32 → Int32 → Int32 → Int32 → Int32 → (Nat → Int32) → Option (Int32 × ((Nat → Int32)))) (f_may : (Nat → Int32)) (v2 : Int32) (v3 : Int32) (v4 : Int32) (v5 : Int32) (v6 : Int32) (v8 : Int32) (v9 : Int32) (s0 : Int32) (f_gives : (Nat → Int32)) : Option (Int32 × ((Nat → Int32))) := if v9 = 0 then ((m_X8_layNumber_79 k23 f_may v2 v3 v4 v6 s0 v8 v5 5 f_gives)) else ((m_X8_layNumber_79 k23 f_may v2 v3 v4 v6 s0 v8 v5 (v9 - 1) f_gives))
noncomputable def m_X8_layNumber_61 (k23 : Int32 → Int32 → Int32 → Int32 → Int32 → Int32 → Int32 → (Nat → Int32) → Option (Int32 × ((Nat → Int32)))) (f_may : (Nat → Int32)) (v2 : Int32) (v3 : Int32) (v4 : Int32) (v5 : Int32) (v6 : Int32) (v8 : Int32) (v9 : Int32) (f_gives : (Nat → Int32)) : Option (Int32 × ((Nat → Int32))) := (m_X8_layNumber_62 k23 f_may v2 v3 v4 v5 v6 v8 v9 0 f_gives)
noncomputable def m_X8_layNumber_23b (k23 : Int32 → Int32 → Int32 → Int32 → Int32 → Int32 → Int32 → (Nat → Int32) → Option (Int32 × ((Nat → Int32)))) (f_may : (Nat → Int32)) (v2 : Int32) (v3 : Int32) (v4 : Int32) (v5 : Int32) (v6 : Int32) (v7 : Int32) (v8 : Int32) (f_gives : (Nat → Int32)) : Option (Int32 × ((Nat → Int32))) := if v8 < 0 then (if v7 = 0 then (some (0, f_gives)) else (if v4 = 0 then (ogb (m_X8_layGiving f_may f_gives v5 v2 v3) (fun q_113 => if q_113.1 = 0 then (some (0, q_113.2)) else (some (1, q_113.2)))) else (some (0, f_gives)))) else (ogl (v4 - v4 / 10 * 10) (fun (v9_33 : Int32) => ogl (v4 / 10) (fun (v4_40 : Int32) => if v7 = 0 then ((m_X8_layNumber_61 k23 f_may v2 v3 v4_40 v5 v6 v8 v9_33 f_gives)) else (ogb (m_X8_in v9_33 0 5) (fun q_51 => if q_51 = 0 then ((m_X8_layNumber_61 k23 f_may v2 v3 v4_40 v5 v6 v8 v9_33 f_gives)) else ((m_X8_layNumber_62 k23 f_may v2 v3 v4_40 v5 v6 v8 v9_33 1 f_gives)))))))
noncomputable def m_X8_layNumber_23 (f_may : (Nat → Int32)) (fuel : Nat) : Int32 → Int32 → Int32 → Int32 → Int32 → Int32 → Int32 → (Nat → Int32) → Option (Int32 × ((Nat → Int32))) := Nat.rec (fun _ _ _ _ _ _ _ _ => none) (fun _ k23 => m_X8_layNumber_23b k23 f_may) fuel
noncomputable def m_X8_layNumber_18 (f_may : (Nat → Int32)) (v2 : Int32) (v3 : Int32) (v4 : Int32) (v5 : Int32) (v6 : Int32) (s0 : Int32) (f_gives : (Nat → Int32)) : Option (Int32 × ((Nat → Int32))) := (m_X8_layNumber_23 f_may 1000000 v2 v3 v4 v5 v6 s0 5 f_gives)
noncomputable def m_X8_layNumber (f_may : (Nat → Int32)) (f_gives : (Nat → Int32)) (v1 : Int32) (v2 : Int32) (v3 : Int32) : Option (Int32 × ((Nat → Int32))) := if v1 < 0 then ((m_X8_layNumber_18 f_may v2 v3 v1 0 1 0 f_gives)) else ((m_X8_layNumber_18 f_may v2 v3 v1 0 1 1 f_gives))
set_option maxHeartbeats 4000000 in
set_option maxRecDepth 100000 in
theorem c_X8_layNumber (l : Launch) (D : va_G) (cI cZ : ClassId) (a_t a_gives a_may b_voyage b_lucky b_worths b_ranks b_pad b_bears b_due b_borneBy b_gone b_sunk b_times b_whoBore b_best b_holds b_refused b_sums b_image b_isKept : Nat) (f_gives : (Nat → Int32)) (f_may : (Nat → Int32)) (x_t_signs : Int32) (x_t_day : Int32) (x_t_reason : Int32) (x_t_asked : Int32) (v1 : Int32) (v2 : Int32) (v3 : Int32) {res : (Int32 × ((Nat → Int32)))} (h : m_X8_layNumber f_may f_gives v1 v2 v3 = some res) : CT l yX8_layNumber wsX8_layNumber ({ frames := 2, cells := 0, slots := 0, locals := 49 } : Room) D cI cZ [.ref a_t, .int v1, .int v2, .int v3] [(a_t, .inr (8, [.ref a_may, .ref b_voyage, .ref b_lucky, .ref b_worths, .ref b_ranks, .int x_t_signs, .ref b_pad, .int x_t_day, .int x_t_reason, .ref b_bears, .ref b_due, .ref b_borneBy, .ref b_gone, .ref b_sunk, .ref b_times, .int x_t_asked, .ref b_whoBore, .ref a_gives, .ref b_best, .ref b_holds, .ref b_refused, .ref b_sums, .ref b_image, .ref b_isKept])), (a_gives, .inl (cI, 6, .inl f_gives)), (a_may, .inl (cI, 6, .inl f_may))] (QI D [(a_t, .inr (8, [.ref a_may, .ref b_voyage, .ref b_lucky, .ref b_worths, .ref b_ranks, .int x_t_signs, .ref b_pad, .int x_t_day, .int x_t_reason, .ref b_bears, .ref b_due, .ref b_borneBy, .ref b_gone, .ref b_sunk, .ref b_times, .int x_t_asked, .ref b_whoBore, .ref a_gives, .ref b_best, .ref b_holds, .ref b_refused, .ref b_sums, .ref b_image, .ref b_isKept])), (a_gives, .inl (cI, 6, .inl f_gives)), (a_may, .inl (cI, 6, .inl f_may))] (fun (r : Int32) (u : (Nat → Int32)) => r = res.1 ∧ u = res.2) (fun (u : (Nat → Int32)) => [(a_t, .inr (8, [.ref a_may, .ref b_voyage, .ref b_lucky, .ref b_worths, .ref b_ranks, .int x_t_signs, .ref b_pad, .int x_t_day, .int x_t_reason, .ref b_bears, .ref b_due, .ref b_borneBy, .ref b_gone, .ref b_sunk, .ref b_times, .int x_t_asked, .ref b_whoBore, .ref a_gives, .ref b_best, .ref b_holds, .ref b_refused, .ref b_sums, .ref b_image, .ref b_isKept])), (a_gives, .inl (cI, 6, .inl u)), (a_may, .inl (cI, 6, .inl f_may))])) 0 0 := by
  have h : (if v1 < 0 then ((m_X8_layNumber_18 f_may v2 v3 v1 0 1 0 f_gives)) else ((m_X8_layNumber_18 f_may v2 v3 v1 0 1 1 f_gives)) : Option (Int32 × ((Nat → Int32)))) = some res := h
  refine ct_entry (cc := cX8_layNumber) (nl := 10) (ret := (some .boolean)) (own := RX8) (lv0 := [(0, .ref a_t), (1, .int v1), (2, .int v2), (3, .int v3)]) (by decide) rfl rfl (Nat.le_of_ble_eq_true rfl) rfl ?_
  intro p e s m args below meth c A Q hA hQ hr hnm B
  have cut_23 : ∀ (fuel : Nat) (v2 : Int32) (v3 : Int32) (v4 : Int32) (v5 : Int32) (v6 : Int32) (v7 : Int32) (v8 : Int32) (f_gives : (Nat → Int32)), m_X8_layNumber_23 f_may fuel v2 v3 v4 v5 v6 v7 v8 f_gives = some res → WW p l e (headSpec wsX8_layNumber ({ frames := 2, cells := 0, slots := 0, locals := 49 } : Room)).room s m args below meth c D A 10 0 0 Q [(a_t, .inr (8, [.ref a_may, .ref b_voyage, .ref b_lucky, .ref b_worths, .ref b_ranks, .int x_t_signs, .ref b_pad, .int x_t_day, .int x_t_reason, .ref b_bears, .ref b_due, .ref b_borneBy, .ref b_gone, .ref b_sunk, .ref b_times, .int x_t_asked, .ref b_whoBore, .ref a_gives, .ref b_best, .ref b_holds, .ref b_refused, .ref b_sums, .ref b_image, .ref b_isKept])), (a_gives, .inl (cI, 6, .inl f_gives)), (a_may, .inl (cI, 6, .inl f_may))] [(0, .ref a_t), (2, .int v2), (3, .int v3), (4, .int v4), (5, .int v5), (6, .int v6), (7, .int v7), (8, .int v8)] [] 23 := by
    intro fuel_23
    induction fuel_23 with
    | zero => intro v2 v3 v4 v5 v6 v7 v8 f_gives h; exact og_0 h
    | succ fuel_23 ih_23 =>
      have cut_79 : ∀ (v2 : Int32) (v3 : Int32) (v4 : Int32) (v6 : Int32) (v7 : Int32) (v8 : Int32) (s0 : Int32) (s1 : Int32) (f_gives : (Nat → Int32)), m_X8_layNumber_79 (m_X8_layNumber_23 f_may fuel_23) f_may v2 v3 v4 v6 v7 v8 s0 s1 f_gives = some res → WW p l e (headSpec wsX8_layNumber ({ frames := 2, cells := 0, slots := 0, locals := 49 } : Room)).room s m args below meth c D A 10 0 0 Q [(a_t, .inr (8, [.ref a_may, .ref b_voyage, .ref b_lucky, .ref b_worths, .ref b_ranks, .int x_t_signs, .ref b_pad, .int x_t_day, .int x_t_reason, .ref b_bears, .ref b_due, .ref b_borneBy, .ref b_gone, .ref b_sunk, .ref b_times, .int x_t_asked, .ref b_whoBore, .ref a_gives, .ref b_best, .ref b_holds, .ref b_refused, .ref b_sums, .ref b_image, .ref b_isKept])), (a_gives, .inl (cI, 6, .inl f_gives)), (a_may, .inl (cI, 6, .inl f_may))] [(0, .ref a_t), (2, .int v2), (3, .int v3), (4, .int v4), (6, .int v6), (7, .int v7), (8, .int v8)] [.int s1, .int s0] 79 := by
        intro v2 v3 v4 v6 v7 v8 s0 s1 f_gives h
        replace h : (ogl (s0 + (s1 * v6)) (fun (v5_83 : Int32) => ogl (v6 * 6) (fun (v6_90 : Int32) => ogl (v8 + (-1)) (fun (v8_92 : Int32) => ((m_X8_layNumber_23 f_may fuel_23) v2 v3 v4 v5_83 v6_90 v7 v8_92 f_gives)))) : Option (Int32 × ((Nat → Int32)))) = some res := h
        refine ww_iload B dX8_layNumber_79 4 rfl ?_
        refine ww_imul B dX8_layNumber_81 ?_
        refine ww_iadd B dX8_layNumber_82 ?_
        refine ww_topi (fun v5_83 ev5_83 => ?_)
        replace h := og_l ev5_83 h
        refine ww_istore B dX8_layNumber_83 (lv' := [(5, .int v5_83), (0, .ref a_t), (2, .int v2), (3, .int v3), (4, .int v4), (6, .int v6), (7, .int v7), (8, .int v8)]) (by decide) rfl ?_
        refine ww_iload B dX8_layNumber_85 5 rfl ?_
        refine ww_bipush B dX8_layNumber_87 (v := 6) (by decide) ?_
        refine ww_imul B dX8_layNumber_89 ?_
        refine ww_topi (fun v6_90 ev6_90 => ?_)
        replace h := og_l ev6_90 h
        refine ww_istore B dX8_layNumber_90 (lv' := [(6, .int v6_90), (5, .int v5_83), (0, .ref a_t), (2, .int v2), (3, .int v3), (4, .int v4), (7, .int v7), (8, .int v8)]) (by decide) rfl ?_
        obtain ⟨v8_92, ev8_92⟩ : ∃ y : Int32, y = (v8 + (-1)) := ⟨_, rfl⟩
        refine ww_iinc B dX8_layNumber_92 7 rfl (v := v8_92) (by rw [ev8_92]; rfl) (by decide) (lv' := [(8, .int v8_92), (6, .int v6_90), (5, .int v5_83), (0, .ref a_t), (2, .int v2), (3, .int v3), (4, .int v4), (7, .int v7)]) rfl ?_
        replace h := og_l ev8_92 h
        refine ww_goto B 23 dX8_layNumber_95 (by decide) ?_
        refine ww_lsel (lv' := [(0, .ref a_t), (2, .int v2), (3, .int v3), (4, .int v4), (5, .int v5_83), (6, .int v6_90), (7, .int v7), (8, .int v8_92)]) [3, 4, 5, 6, 2, 1, 7, 0] rfl ?_
        exact ih_23 _ _ _ _ _ _ _ _ h
      have cut_62 : ∀ (v2 : Int32) (v3 : Int32) (v4 : Int32) (v5 : Int32) (v6 : Int32) (v8 : Int32) (v9 : Int32) (s0 : Int32) (f_gives : (Nat → Int32)), m_X8_layNumber_62 (m_X8_layNumber_23 f_may fuel_23) f_may v2 v3 v4 v5 v6 v8 v9 s0 f_gives = some res → WW p l e (headSpec wsX8_layNumber ({ frames := 2, cells := 0, slots := 0, locals := 49 } : Room)).room s m args below meth c D A 10 0 0 Q [(a_t, .inr (8, [.ref a_may, .ref b_voyage, .ref b_lucky, .ref b_worths, .ref b_ranks, .int x_t_signs, .ref b_pad, .int x_t_day, .int x_t_reason, .ref b_bears, .ref b_due, .ref b_borneBy, .ref b_gone, .ref b_sunk, .ref b_times, .int x_t_asked, .ref b_whoBore, .ref a_gives, .ref b_best, .ref b_holds, .ref b_refused, .ref b_sums, .ref b_image, .ref b_isKept])), (a_gives, .inl (cI, 6, .inl f_gives)), (a_may, .inl (cI, 6, .inl f_may))] [(0, .ref a_t), (2, .int v2), (3, .int v3), (4, .int v4), (5, .int v5), (6, .int v6), (8, .int v8), (9, .int v9)] [.int s0] 62 := by
        intro v2 v3 v4 v5 v6 v8 v9 s0 f_gives h
        replace h : (if v9 = 0 then ((m_X8_layNumber_79 (m_X8_layNumber_23 f_may fuel_23) f_may v2 v3 v4 v6 s0 v8 v5 5 f_gives)) else ((m_X8_layNumber_79 (m_X8_layNumber_23 f_may fuel_23) f_may v2 v3 v4 v6 s0 v8 v5 (v9 - 1) f_gives)) : Option (Int32 × ((Nat → Int32)))) = some res := h
        refine ww_istore B dX8_layNumber_62 (lv' := [(7, .int s0), (0, .ref a_t), (2, .int v2), (3, .int v3), (4, .int v4), (5, .int v5), (6, .int v6), (8, .int v8), (9, .int v9)]) (by decide) rfl ?_
        refine ww_iload B dX8_layNumber_64 5 rfl ?_
        refine ww_iload B dX8_layNumber_66 8 rfl ?_
        refine ww_if_ne B 75 dX8_layNumber_68 (by decide) (fun c_68 => ?_) (fun c_68 => ?_)
        · replace h := og_f c_68 h
          refine ww_iload B dX8_layNumber_75 8 rfl ?_
          refine ww_iconst B dX8_layNumber_77 (v := 1) (by decide) ?_
          refine ww_isub B dX8_layNumber_78 ?_
          refine ww_lsel (lv' := [(0, .ref a_t), (2, .int v2), (3, .int v3), (4, .int v4), (6, .int v6), (7, .int s0), (8, .int v8)]) [1, 2, 3, 4, 6, 0, 7] rfl ?_
          exact cut_79 _ _ _ _ _ _ _ _ _ h
        · replace h := og_t c_68 h
          refine ww_iconst B dX8_layNumber_71 (v := 5) (by decide) ?_
          refine ww_goto B 79 dX8_layNumber_72 (by decide) ?_
          refine ww_lsel (lv' := [(0, .ref a_t), (2, .int v2), (3, .int v3), (4, .int v4), (6, .int v6), (7, .int s0), (8, .int v8)]) [1, 2, 3, 4, 6, 0, 7] rfl ?_
          exact cut_79 _ _ _ _ _ _ _ _ _ h
      have cut_61 : ∀ (v2 : Int32) (v3 : Int32) (v4 : Int32) (v5 : Int32) (v6 : Int32) (v8 : Int32) (v9 : Int32) (f_gives : (Nat → Int32)), m_X8_layNumber_61 (m_X8_layNumber_23 f_may fuel_23) f_may v2 v3 v4 v5 v6 v8 v9 f_gives = some res → WW p l e (headSpec wsX8_layNumber ({ frames := 2, cells := 0, slots := 0, locals := 49 } : Room)).room s m args below meth c D A 10 0 0 Q [(a_t, .inr (8, [.ref a_may, .ref b_voyage, .ref b_lucky, .ref b_worths, .ref b_ranks, .int x_t_signs, .ref b_pad, .int x_t_day, .int x_t_reason, .ref b_bears, .ref b_due, .ref b_borneBy, .ref b_gone, .ref b_sunk, .ref b_times, .int x_t_asked, .ref b_whoBore, .ref a_gives, .ref b_best, .ref b_holds, .ref b_refused, .ref b_sums, .ref b_image, .ref b_isKept])), (a_gives, .inl (cI, 6, .inl f_gives)), (a_may, .inl (cI, 6, .inl f_may))] [(0, .ref a_t), (2, .int v2), (3, .int v3), (4, .int v4), (5, .int v5), (6, .int v6), (8, .int v8), (9, .int v9)] [] 61 := by
        intro v2 v3 v4 v5 v6 v8 v9 f_gives h
        replace h : ((m_X8_layNumber_62 (m_X8_layNumber_23 f_may fuel_23) f_may v2 v3 v4 v5 v6 v8 v9 0 f_gives) : Option (Int32 × ((Nat → Int32)))) = some res := h
        refine ww_iconst B dX8_layNumber_61 (v := 0) (by decide) ?_
        exact cut_62 _ _ _ _ _ _ _ _ _ h
      intro v2 v3 v4 v5 v6 v7 v8 f_gives h
      replace h : (if v8 < 0 then (if v7 = 0 then (some (0, f_gives)) else (if v4 = 0 then (ogb (m_X8_layGiving f_may f_gives v5 v2 v3) (fun q_113 => if q_113.1 = 0 then (some (0, q_113.2)) else (some (1, q_113.2)))) else (some (0, f_gives)))) else (ogl (v4 - v4 / 10 * 10) (fun (v9_33 : Int32) => ogl (v4 / 10) (fun (v4_40 : Int32) => if v7 = 0 then ((m_X8_layNumber_61 (m_X8_layNumber_23 f_may fuel_23) f_may v2 v3 v4_40 v5 v6 v8 v9_33 f_gives)) else (ogb (m_X8_in v9_33 0 5) (fun q_51 => if q_51 = 0 then ((m_X8_layNumber_61 (m_X8_layNumber_23 f_may fuel_23) f_may v2 v3 v4_40 v5 v6 v8 v9_33 f_gives)) else ((m_X8_layNumber_62 (m_X8_layNumber_23 f_may fuel_23) f_may v2 v3 v4_40 v5 v6 v8 v9_33 1 f_gives))))))) : Option (Int32 × ((Nat → Int32)))) = some res := h
      refine ww_iload B dX8_layNumber_23 7 rfl ?_
      refine ww_if_lt B 98 dX8_layNumber_25 (by decide) (fun c_25 => ?_) (fun c_25 => ?_)
      · replace h := og_t c_25 h
        refine ww_iload B dX8_layNumber_98 6 rfl ?_
        refine ww_if_eq B 123 dX8_layNumber_100 (by decide) (fun c_100 => ?_) (fun c_100 => ?_)
        · replace h := og_t c_100 h
          refine ww_iconst B dX8_layNumber_123 (v := 0) (by decide) ?_
          exact ww_zret B hA hQ hr (Or.inl rfl) dX8_layNumber_124 f_gives [0, 1, 2] rfl (by decide) (og_p h)
        · replace h := og_f c_100 h
          refine ww_iload B dX8_layNumber_103 3 rfl ?_
          refine ww_if_ne B 123 dX8_layNumber_105 (by decide) (fun c_105 => ?_) (fun c_105 => ?_)
          · replace h := og_f c_105 h
            refine ww_iconst B dX8_layNumber_123 (v := 0) (by decide) ?_
            exact ww_zret B hA hQ hr (Or.inl rfl) dX8_layNumber_124 f_gives [0, 1, 2] rfl (by decide) (og_p h)
          · replace h := og_t c_105 h
            refine ww_aload_n B dX8_layNumber_108 0 rfl ?_
            refine ww_iload B dX8_layNumber_109 4 rfl ?_
            refine ww_iload_n B dX8_layNumber_111 1 rfl ?_
            refine ww_iload_n B dX8_layNumber_112 2 rfl ?_
            obtain ⟨q_113, hq_113, h⟩ := og_b h
            refine ww_ciM B (k' := 0) (n' := 0) rfl rfl [0, 1, 2] [] (wr := []) (st := []) rfl rfl (by decide) (rr_V B (c_X8_layGiving l D cI cZ a_t a_gives a_may b_voyage b_lucky b_worths b_ranks b_pad b_bears b_due b_borneBy b_gone b_sunk b_times b_whoBore b_best b_holds b_refused b_sums b_image b_isKept f_gives f_may x_t_signs x_t_day x_t_reason x_t_asked v5 v2 v3 hq_113) gX8_layNumber_X8_layGiving rfl rfl rfl (N := 3) rfl (by decide +kernel) ⟨Nat.le_of_ble_eq_true rfl, Nat.le_of_ble_eq_true rfl⟩ rfl dX8_layNumber_113 0 rfl rfl (Nat.le_of_ble_eq_true rfl) ⟨Nat.le_of_ble_eq_true rfl, Nat.le_of_ble_eq_true rfl⟩) (ws' := [(a_t, .inr (8, [.ref a_may, .ref b_voyage, .ref b_lucky, .ref b_worths, .ref b_ranks, .int x_t_signs, .ref b_pad, .int x_t_day, .int x_t_reason, .ref b_bears, .ref b_due, .ref b_borneBy, .ref b_gone, .ref b_sunk, .ref b_times, .int x_t_asked, .ref b_whoBore, .ref a_gives, .ref b_best, .ref b_holds, .ref b_refused, .ref b_sums, .ref b_image, .ref b_isKept])), (a_gives, .inl (cI, 6, .inl q_113.2)), (a_may, .inl (cI, 6, .inl f_may))]) rfl ?_
            refine ww_if_eq B 123 dX8_layNumber_116 (by decide) (fun c_116 => ?_) (fun c_116 => ?_)
            · replace h := og_t c_116 h
              refine ww_iconst B dX8_layNumber_123 (v := 0) (by decide) ?_
              exact ww_zret B hA hQ hr (Or.inl rfl) dX8_layNumber_124 q_113.2 [0, 1, 2] rfl (by decide) (og_p h)
            · replace h := og_f c_116 h
              refine ww_iconst B dX8_layNumber_119 (v := 1) (by decide) ?_
              refine ww_goto B 124 dX8_layNumber_120 (by decide) ?_
              exact ww_zret B hA hQ hr (Or.inr rfl) dX8_layNumber_124 q_113.2 [0, 1, 2] rfl (by decide) (og_p h)
      · replace h := og_f c_25 h
        refine ww_iload B dX8_layNumber_28 3 rfl ?_
        refine ww_bipush B dX8_layNumber_30 (v := 10) (by decide) ?_
        refine ww_irem B dX8_layNumber_32 (by decide) ?_
        refine ww_topi (fun v9_33 ev9_33 => ?_)
        replace h := og_l ev9_33 h
        refine ww_istore B dX8_layNumber_33 (lv' := [(9, .int v9_33), (0, .ref a_t), (2, .int v2), (3, .int v3), (4, .int v4), (5, .int v5), (6, .int v6), (7, .int v7), (8, .int v8)]) (by decide) rfl ?_
        refine ww_iload B dX8_layNumber_35 4 rfl ?_
        refine ww_bipush B dX8_layNumber_37 (v := 10) (by decide) ?_
        refine ww_idiv B dX8_layNumber_39 (by decide) ?_
        refine ww_topi (fun v4_40 ev4_40 => ?_)
        replace h := og_l ev4_40 h
        refine ww_istore B dX8_layNumber_40 (lv' := [(4, .int v4_40), (9, .int v9_33), (0, .ref a_t), (2, .int v2), (3, .int v3), (5, .int v5), (6, .int v6), (7, .int v7), (8, .int v8)]) (by decide) rfl ?_
        refine ww_iload B dX8_layNumber_42 7 rfl ?_
        refine ww_if_eq B 61 dX8_layNumber_44 (by decide) (fun c_44 => ?_) (fun c_44 => ?_)
        · replace h := og_t c_44 h
          refine ww_lsel (lv' := [(0, .ref a_t), (2, .int v2), (3, .int v3), (4, .int v4_40), (5, .int v5), (6, .int v6), (8, .int v8), (9, .int v9_33)]) [2, 3, 4, 0, 5, 6, 8, 1] rfl ?_
          exact cut_61 _ _ _ _ _ _ _ _ h
        · replace h := og_f c_44 h
          refine ww_iload B dX8_layNumber_47 1 rfl ?_
          refine ww_iconst B dX8_layNumber_49 (v := 0) (by decide) ?_
          refine ww_iconst B dX8_layNumber_50 (v := 5) (by decide) ?_
          obtain ⟨q_51, hq_51, h⟩ := og_b h
          refine ww_ci0 B (k' := 0) (n' := 0) rfl rfl [] [0, 1, 2] (wr := [(a_t, .inr (8, [.ref a_may, .ref b_voyage, .ref b_lucky, .ref b_worths, .ref b_ranks, .int x_t_signs, .ref b_pad, .int x_t_day, .int x_t_reason, .ref b_bears, .ref b_due, .ref b_borneBy, .ref b_gone, .ref b_sunk, .ref b_times, .int x_t_asked, .ref b_whoBore, .ref a_gives, .ref b_best, .ref b_holds, .ref b_refused, .ref b_sums, .ref b_image, .ref b_isKept])), (a_gives, .inl (cI, 6, .inl f_gives)), (a_may, .inl (cI, 6, .inl f_may))]) (st := []) rfl rfl (by decide) (rr_S B (c_X8_in l D cI cZ v9_33 0 5 hq_51) gX8_layNumber_X8_in rfl rfl rfl (N := 3) rfl (by decide +kernel) ⟨Nat.le_of_ble_eq_true rfl, Nat.le_of_ble_eq_true rfl⟩ rfl dX8_layNumber_51 (Nat.le_of_ble_eq_true rfl) ⟨Nat.le_of_ble_eq_true rfl, Nat.le_of_ble_eq_true rfl⟩) (ws' := [(a_t, .inr (8, [.ref a_may, .ref b_voyage, .ref b_lucky, .ref b_worths, .ref b_ranks, .int x_t_signs, .ref b_pad, .int x_t_day, .int x_t_reason, .ref b_bears, .ref b_due, .ref b_borneBy, .ref b_gone, .ref b_sunk, .ref b_times, .int x_t_asked, .ref b_whoBore, .ref a_gives, .ref b_best, .ref b_holds, .ref b_refused, .ref b_sums, .ref b_image, .ref b_isKept])), (a_gives, .inl (cI, 6, .inl f_gives)), (a_may, .inl (cI, 6, .inl f_may))]) rfl ?_
          refine ww_if_eq B 61 dX8_layNumber_54 (by decide) (fun c_54 => ?_) (fun c_54 => ?_)
          · replace h := og_t c_54 h
            refine ww_lsel (lv' := [(0, .ref a_t), (2, .int v2), (3, .int v3), (4, .int v4_40), (5, .int v5), (6, .int v6), (8, .int v8), (9, .int v9_33)]) [2, 3, 4, 0, 5, 6, 8, 1] rfl ?_
            exact cut_61 _ _ _ _ _ _ _ _ h
          · replace h := og_f c_54 h
            refine ww_iconst B dX8_layNumber_57 (v := 1) (by decide) ?_
            refine ww_goto B 62 dX8_layNumber_58 (by decide) ?_
            refine ww_lsel (lv' := [(0, .ref a_t), (2, .int v2), (3, .int v3), (4, .int v4_40), (5, .int v5), (6, .int v6), (8, .int v8), (9, .int v9_33)]) [2, 3, 4, 0, 5, 6, 8, 1] rfl ?_
            exact cut_62 _ _ _ _ _ _ _ _ _ h
  have cut_18 : ∀ (v2 : Int32) (v3 : Int32) (v4 : Int32) (v5 : Int32) (v6 : Int32) (s0 : Int32) (f_gives : (Nat → Int32)), m_X8_layNumber_18 f_may v2 v3 v4 v5 v6 s0 f_gives = some res → WW p l e (headSpec wsX8_layNumber ({ frames := 2, cells := 0, slots := 0, locals := 49 } : Room)).room s m args below meth c D A 10 0 0 Q [(a_t, .inr (8, [.ref a_may, .ref b_voyage, .ref b_lucky, .ref b_worths, .ref b_ranks, .int x_t_signs, .ref b_pad, .int x_t_day, .int x_t_reason, .ref b_bears, .ref b_due, .ref b_borneBy, .ref b_gone, .ref b_sunk, .ref b_times, .int x_t_asked, .ref b_whoBore, .ref a_gives, .ref b_best, .ref b_holds, .ref b_refused, .ref b_sums, .ref b_image, .ref b_isKept])), (a_gives, .inl (cI, 6, .inl f_gives)), (a_may, .inl (cI, 6, .inl f_may))] [(0, .ref a_t), (2, .int v2), (3, .int v3), (4, .int v4), (5, .int v5), (6, .int v6)] [.int s0] 18 := by
    intro v2 v3 v4 v5 v6 s0 f_gives h
    replace h : ((m_X8_layNumber_23 f_may 1000000 v2 v3 v4 v5 v6 s0 5 f_gives) : Option (Int32 × ((Nat → Int32)))) = some res := h
    refine ww_istore B dX8_layNumber_18 (lv' := [(7, .int s0), (0, .ref a_t), (2, .int v2), (3, .int v3), (4, .int v4), (5, .int v5), (6, .int v6)]) (by decide) rfl ?_
    refine ww_iconst B dX8_layNumber_20 (v := 5) (by decide) ?_
    refine ww_istore B dX8_layNumber_21 (lv' := [(8, .int 5), (7, .int s0), (0, .ref a_t), (2, .int v2), (3, .int v3), (4, .int v4), (5, .int v5), (6, .int v6)]) (by decide) rfl ?_
    refine ww_lsel (lv' := [(0, .ref a_t), (2, .int v2), (3, .int v3), (4, .int v4), (5, .int v5), (6, .int v6), (7, .int s0), (8, .int 5)]) [2, 3, 4, 5, 6, 7, 1, 0] rfl ?_
    exact cut_23 _ _ _ _ _ _ _ _ _ h
  refine ww_iload_n B dX8_layNumber_0 1 rfl ?_
  refine ww_istore B dX8_layNumber_1 (lv' := [(4, .int v1), (0, .ref a_t), (1, .int v1), (2, .int v2), (3, .int v3)]) (by decide) rfl ?_
  refine ww_iconst B dX8_layNumber_3 (v := 0) (by decide) ?_
  refine ww_istore B dX8_layNumber_4 (lv' := [(5, .int 0), (4, .int v1), (0, .ref a_t), (1, .int v1), (2, .int v2), (3, .int v3)]) (by decide) rfl ?_
  refine ww_iconst B dX8_layNumber_6 (v := 1) (by decide) ?_
  refine ww_istore B dX8_layNumber_7 (lv' := [(6, .int 1), (5, .int 0), (4, .int v1), (0, .ref a_t), (1, .int v1), (2, .int v2), (3, .int v3)]) (by decide) rfl ?_
  refine ww_iload_n B dX8_layNumber_9 4 rfl ?_
  refine ww_if_lt B 17 dX8_layNumber_10 (by decide) (fun c_10 => ?_) (fun c_10 => ?_)
  · replace h := og_t c_10 h
    refine ww_iconst B dX8_layNumber_17 (v := 0) (by decide) ?_
    refine ww_lsel (lv' := [(0, .ref a_t), (2, .int v2), (3, .int v3), (4, .int v1), (5, .int 0), (6, .int 1)]) [3, 5, 6, 2, 1, 0] rfl ?_
    exact cut_18 _ _ _ _ _ _ _ h
  · replace h := og_f c_10 h
    refine ww_iconst B dX8_layNumber_13 (v := 1) (by decide) ?_
    refine ww_goto B 18 dX8_layNumber_14 (by decide) ?_
    refine ww_lsel (lv' := [(0, .ref a_t), (2, .int v2), (3, .int v3), (4, .int v1), (5, .int 0), (6, .int 1)]) [3, 5, 6, 2, 1, 0] rfl ?_
    exact cut_18 _ _ _ _ _ _ _ h
noncomputable def m_X8_leastAtHome_45 (k5 : Int32 → Int32 → Int32 → Option Int32) (f_borneBy : (Nat → Int32)) (f_gone : (Nat → Int32)) (f_may : (Nat → Int32)) (v1 : Int32) (v3 : Int32) (s0 : Int32) : Option Int32 := ogl (v3 + (-1)) (fun (v3_46 : Int32) => (k5 v1 s0 v3_46))
noncomputable def m_X8_leastAtHome_44 (k5 : Int32 → Int32 → Int32 → Option Int32) (f_borneBy : (Nat → Int32)) (f_gone : (Nat → Int32)) (f_may : (Nat → Int32)) (v1 : Int32) (v2 : Int32) (v3 : Int32) : Option Int32 := (m_X8_leastAtHome_45 k5 f_borneBy f_gone f_may v1 v3 v2)
noncomputable def m_X8_leastAtHome_5b (k5 : Int32 → Int32 → Int32 → Option Int32) (f_borneBy : (Nat → Int32)) (f_gone : (Nat → Int32)) (f_may : (Nat → Int32)) (v1 : Int32) (v2 : Int32) (v3 : Int32) : Option Int32 := if v3 < 0 then (some v2) else (ogi v1 6 (ogb (m_X8_has (f_may (Int32.toNatClampNeg v1)) v3) (fun q_16 => if q_16 = 0 then ((m_X8_leastAtHome_44 k5 f_borneBy f_gone f_may v1 v2 v3)) else (ogi v3 5 (if (f_gone (Int32.toNatClampNeg v3)) = 0 then (ogi v3 5 (if 0 ≤ (f_borneBy (Int32.toNatClampNeg v3)) then ((m_X8_leastAtHome_44 k5 f_borneBy f_gone f_may v1 v2 v3)) else ((m_X8_leastAtHome_45 k5 f_borneBy f_gone f_may v1 v3 v3)))) else ((m_X8_leastAtHome_44 k5 f_borneBy f_gone f_may v1 v2 v3)))))))
noncomputable def m_X8_leastAtHome_5 (f_borneBy : (Nat → Int32)) (f_gone : (Nat → Int32)) (f_may : (Nat → Int32)) (fuel : Nat) : Int32 → Int32 → Int32 → Option Int32 := Nat.rec (fun _ _ _ => none) (fun _ k5 => m_X8_leastAtHome_5b k5 f_borneBy f_gone f_may) fuel
noncomputable def m_X8_leastAtHome (f_borneBy : (Nat → Int32)) (f_gone : (Nat → Int32)) (f_may : (Nat → Int32)) (v1 : Int32) : Option Int32 := (m_X8_leastAtHome_5 f_borneBy f_gone f_may 1000000 v1 (-6) 4)
set_option maxHeartbeats 4000000 in
set_option maxRecDepth 100000 in
theorem c_X8_leastAtHome (l : Launch) (D : va_G) (cI cZ : ClassId) (a_t a_borneBy a_gone a_may b_voyage b_lucky b_worths b_ranks b_pad b_bears b_due b_sunk b_times b_whoBore b_gives b_best b_holds b_refused b_sums b_image b_isKept : Nat) (f_borneBy : (Nat → Int32)) (f_gone : (Nat → Int32)) (f_may : (Nat → Int32)) (x_t_signs : Int32) (x_t_day : Int32) (x_t_reason : Int32) (x_t_asked : Int32) (v1 : Int32) {res : Int32} (h : m_X8_leastAtHome f_borneBy f_gone f_may v1 = some res) : CT l yX8_leastAtHome wsX8_leastAtHome ({ frames := 1, cells := 0, slots := 0, locals := 21 } : Room) D cI cZ [.ref a_t, .int v1] [(a_t, .inr (8, [.ref a_may, .ref b_voyage, .ref b_lucky, .ref b_worths, .ref b_ranks, .int x_t_signs, .ref b_pad, .int x_t_day, .int x_t_reason, .ref b_bears, .ref b_due, .ref a_borneBy, .ref a_gone, .ref b_sunk, .ref b_times, .int x_t_asked, .ref b_whoBore, .ref b_gives, .ref b_best, .ref b_holds, .ref b_refused, .ref b_sums, .ref b_image, .ref b_isKept])), (a_borneBy, .inl (cI, 5, .inl f_borneBy)), (a_gone, .inl (cZ, 5, .inl f_gone)), (a_may, .inl (cI, 6, .inl f_may))] (QI D [(a_t, .inr (8, [.ref a_may, .ref b_voyage, .ref b_lucky, .ref b_worths, .ref b_ranks, .int x_t_signs, .ref b_pad, .int x_t_day, .int x_t_reason, .ref b_bears, .ref b_due, .ref a_borneBy, .ref a_gone, .ref b_sunk, .ref b_times, .int x_t_asked, .ref b_whoBore, .ref b_gives, .ref b_best, .ref b_holds, .ref b_refused, .ref b_sums, .ref b_image, .ref b_isKept])), (a_borneBy, .inl (cI, 5, .inl f_borneBy)), (a_gone, .inl (cZ, 5, .inl f_gone)), (a_may, .inl (cI, 6, .inl f_may))] (fun (r : Int32) (_ : Unit) => r = res) (fun (u : Unit) => [(a_t, .inr (8, [.ref a_may, .ref b_voyage, .ref b_lucky, .ref b_worths, .ref b_ranks, .int x_t_signs, .ref b_pad, .int x_t_day, .int x_t_reason, .ref b_bears, .ref b_due, .ref a_borneBy, .ref a_gone, .ref b_sunk, .ref b_times, .int x_t_asked, .ref b_whoBore, .ref b_gives, .ref b_best, .ref b_holds, .ref b_refused, .ref b_sums, .ref b_image, .ref b_isKept])), (a_borneBy, .inl (cI, 5, .inl f_borneBy)), (a_gone, .inl (cZ, 5, .inl f_gone)), (a_may, .inl (cI, 6, .inl f_may))])) 0 0 := by
  have h : ((m_X8_leastAtHome_5 f_borneBy f_gone f_may 1000000 v1 (-6) 4) : Option Int32) = some res := h
  refine ct_entry (cc := cX8_leastAtHome) (nl := 4) (ret := (some .int)) (own := RX8) (lv0 := [(0, .ref a_t), (1, .int v1)]) (by decide) rfl rfl (Nat.le_of_ble_eq_true rfl) rfl ?_
  intro p e s m args below meth c A Q hA hQ hr hnm B
  have iX8 : ∀ w ∈ wsX80, w ∈ wsX8_leastAtHome := by decide +kernel
  have cut_5 : ∀ (fuel : Nat) (v1 : Int32) (v2 : Int32) (v3 : Int32), m_X8_leastAtHome_5 f_borneBy f_gone f_may fuel v1 v2 v3 = some res → WW p l e (headSpec wsX8_leastAtHome ({ frames := 1, cells := 0, slots := 0, locals := 21 } : Room)).room s m args below meth c D A 4 0 0 Q [(a_t, .inr (8, [.ref a_may, .ref b_voyage, .ref b_lucky, .ref b_worths, .ref b_ranks, .int x_t_signs, .ref b_pad, .int x_t_day, .int x_t_reason, .ref b_bears, .ref b_due, .ref a_borneBy, .ref a_gone, .ref b_sunk, .ref b_times, .int x_t_asked, .ref b_whoBore, .ref b_gives, .ref b_best, .ref b_holds, .ref b_refused, .ref b_sums, .ref b_image, .ref b_isKept])), (a_borneBy, .inl (cI, 5, .inl f_borneBy)), (a_gone, .inl (cZ, 5, .inl f_gone)), (a_may, .inl (cI, 6, .inl f_may))] [(0, .ref a_t), (1, .int v1), (2, .int v2), (3, .int v3)] [] 5 := by
    intro fuel_5
    induction fuel_5 with
    | zero => intro v1 v2 v3 h; exact og_0 h
    | succ fuel_5 ih_5 =>
      have cut_45 : ∀ (v1 : Int32) (v3 : Int32) (s0 : Int32), m_X8_leastAtHome_45 (m_X8_leastAtHome_5 f_borneBy f_gone f_may fuel_5) f_borneBy f_gone f_may v1 v3 s0 = some res → WW p l e (headSpec wsX8_leastAtHome ({ frames := 1, cells := 0, slots := 0, locals := 21 } : Room)).room s m args below meth c D A 4 0 0 Q [(a_t, .inr (8, [.ref a_may, .ref b_voyage, .ref b_lucky, .ref b_worths, .ref b_ranks, .int x_t_signs, .ref b_pad, .int x_t_day, .int x_t_reason, .ref b_bears, .ref b_due, .ref a_borneBy, .ref a_gone, .ref b_sunk, .ref b_times, .int x_t_asked, .ref b_whoBore, .ref b_gives, .ref b_best, .ref b_holds, .ref b_refused, .ref b_sums, .ref b_image, .ref b_isKept])), (a_borneBy, .inl (cI, 5, .inl f_borneBy)), (a_gone, .inl (cZ, 5, .inl f_gone)), (a_may, .inl (cI, 6, .inl f_may))] [(0, .ref a_t), (1, .int v1), (3, .int v3)] [.int s0] 45 := by
        intro v1 v3 s0 h
        replace h : (ogl (v3 + (-1)) (fun (v3_46 : Int32) => ((m_X8_leastAtHome_5 f_borneBy f_gone f_may fuel_5) v1 s0 v3_46)) : Option Int32) = some res := h
        refine ww_istore_n B dX8_leastAtHome_45 (lv' := [(2, .int s0), (0, .ref a_t), (1, .int v1), (3, .int v3)]) (by decide) rfl ?_
        obtain ⟨v3_46, ev3_46⟩ : ∃ y : Int32, y = (v3 + (-1)) := ⟨_, rfl⟩
        refine ww_iinc B dX8_leastAtHome_46 3 rfl (v := v3_46) (by rw [ev3_46]; rfl) (by decide) (lv' := [(3, .int v3_46), (2, .int s0), (0, .ref a_t), (1, .int v1)]) rfl ?_
        replace h := og_l ev3_46 h
        refine ww_goto B 5 dX8_leastAtHome_49 (by decide) ?_
        refine ww_lsel (lv' := [(0, .ref a_t), (1, .int v1), (2, .int s0), (3, .int v3_46)]) [2, 3, 1, 0] rfl ?_
        exact ih_5 _ _ _ h
      have cut_44 : ∀ (v1 : Int32) (v2 : Int32) (v3 : Int32), m_X8_leastAtHome_44 (m_X8_leastAtHome_5 f_borneBy f_gone f_may fuel_5) f_borneBy f_gone f_may v1 v2 v3 = some res → WW p l e (headSpec wsX8_leastAtHome ({ frames := 1, cells := 0, slots := 0, locals := 21 } : Room)).room s m args below meth c D A 4 0 0 Q [(a_t, .inr (8, [.ref a_may, .ref b_voyage, .ref b_lucky, .ref b_worths, .ref b_ranks, .int x_t_signs, .ref b_pad, .int x_t_day, .int x_t_reason, .ref b_bears, .ref b_due, .ref a_borneBy, .ref a_gone, .ref b_sunk, .ref b_times, .int x_t_asked, .ref b_whoBore, .ref b_gives, .ref b_best, .ref b_holds, .ref b_refused, .ref b_sums, .ref b_image, .ref b_isKept])), (a_borneBy, .inl (cI, 5, .inl f_borneBy)), (a_gone, .inl (cZ, 5, .inl f_gone)), (a_may, .inl (cI, 6, .inl f_may))] [(0, .ref a_t), (1, .int v1), (2, .int v2), (3, .int v3)] [] 44 := by
        intro v1 v2 v3 h
        replace h : ((m_X8_leastAtHome_45 (m_X8_leastAtHome_5 f_borneBy f_gone f_may fuel_5) f_borneBy f_gone f_may v1 v3 v2) : Option Int32) = some res := h
        refine ww_iload_n B dX8_leastAtHome_44 2 rfl ?_
        refine ww_lsel (lv' := [(0, .ref a_t), (1, .int v1), (3, .int v3)]) [0, 1, 3] rfl ?_
        exact cut_45 _ _ _ h
      intro v1 v2 v3 h
      replace h : (if v3 < 0 then (some v2) else (ogi v1 6 (ogb (m_X8_has (f_may (Int32.toNatClampNeg v1)) v3) (fun q_16 => if q_16 = 0 then ((m_X8_leastAtHome_44 (m_X8_leastAtHome_5 f_borneBy f_gone f_may fuel_5) f_borneBy f_gone f_may v1 v2 v3)) else (ogi v3 5 (if (f_gone (Int32.toNatClampNeg v3)) = 0 then (ogi v3 5 (if 0 ≤ (f_borneBy (Int32.toNatClampNeg v3)) then ((m_X8_leastAtHome_44 (m_X8_leastAtHome_5 f_borneBy f_gone f_may fuel_5) f_borneBy f_gone f_may v1 v2 v3)) else ((m_X8_leastAtHome_45 (m_X8_leastAtHome_5 f_borneBy f_gone f_may fuel_5) f_borneBy f_gone f_may v1 v3 v3)))) else ((m_X8_leastAtHome_44 (m_X8_leastAtHome_5 f_borneBy f_gone f_may fuel_5) f_borneBy f_gone f_may v1 v2 v3))))))) : Option Int32) = some res := h
      refine ww_iload_n B dX8_leastAtHome_5 3 rfl ?_
      refine ww_if_lt B 52 dX8_leastAtHome_6 (by decide) (fun c_6 => ?_) (fun c_6 => ?_)
      · replace h := og_t c_6 h
        refine ww_iload_n B dX8_leastAtHome_52 2 rfl ?_
        exact ww_iret B hA hQ hr dX8_leastAtHome_53 () [0, 1, 2, 3] rfl (by decide) (og_s h).symm
      · replace h := og_f c_6 h
        refine ww_aload_n B dX8_leastAtHome_9 0 rfl ?_
        refine ww_get (ci := 8) (T := TX8) (C := RX8) (N := 24) B iX8 0 rfl rfl 0 (by decide) (by decide +kernel) rfl rfl dX8_leastAtHome_10 ?_
        refine ww_iload_n B dX8_leastAtHome_13 1 rfl ?_
        obtain ⟨i_14, h⟩ := og_i h
        refine ww_iald B 3 rfl i_14 dX8_leastAtHome_14 ?_
        refine ww_iload_n B dX8_leastAtHome_15 3 rfl ?_
        obtain ⟨q_16, hq_16, h⟩ := og_b h
        refine ww_ci0 B (k' := 0) (n' := 0) rfl rfl [] [0, 1, 2, 3] (wr := [(a_t, .inr (8, [.ref a_may, .ref b_voyage, .ref b_lucky, .ref b_worths, .ref b_ranks, .int x_t_signs, .ref b_pad, .int x_t_day, .int x_t_reason, .ref b_bears, .ref b_due, .ref a_borneBy, .ref a_gone, .ref b_sunk, .ref b_times, .int x_t_asked, .ref b_whoBore, .ref b_gives, .ref b_best, .ref b_holds, .ref b_refused, .ref b_sums, .ref b_image, .ref b_isKept])), (a_borneBy, .inl (cI, 5, .inl f_borneBy)), (a_gone, .inl (cZ, 5, .inl f_gone)), (a_may, .inl (cI, 6, .inl f_may))]) (st := []) rfl rfl (by decide) (rr_S B (c_X8_has l D cI cZ (f_may (Int32.toNatClampNeg v1)) v3 hq_16) gX8_leastAtHome_X8_has rfl rfl rfl (N := 2) rfl (by decide +kernel) ⟨Nat.le_of_ble_eq_true rfl, Nat.le_of_ble_eq_true rfl⟩ rfl dX8_leastAtHome_16 (Nat.le_of_ble_eq_true rfl) ⟨Nat.le_of_ble_eq_true rfl, Nat.le_of_ble_eq_true rfl⟩) (ws' := [(a_t, .inr (8, [.ref a_may, .ref b_voyage, .ref b_lucky, .ref b_worths, .ref b_ranks, .int x_t_signs, .ref b_pad, .int x_t_day, .int x_t_reason, .ref b_bears, .ref b_due, .ref a_borneBy, .ref a_gone, .ref b_sunk, .ref b_times, .int x_t_asked, .ref b_whoBore, .ref b_gives, .ref b_best, .ref b_holds, .ref b_refused, .ref b_sums, .ref b_image, .ref b_isKept])), (a_borneBy, .inl (cI, 5, .inl f_borneBy)), (a_gone, .inl (cZ, 5, .inl f_gone)), (a_may, .inl (cI, 6, .inl f_may))]) rfl ?_
        refine ww_if_eq B 44 dX8_leastAtHome_19 (by decide) (fun c_19 => ?_) (fun c_19 => ?_)
        · replace h := og_t c_19 h
          exact cut_44 _ _ _ h
        · replace h := og_f c_19 h
          refine ww_aload_n B dX8_leastAtHome_22 0 rfl ?_
          refine ww_get (ci := 8) (T := TX8) (C := RX8) (N := 24) B iX8 0 rfl rfl 12 (by decide) (by decide +kernel) rfl rfl dX8_leastAtHome_23 ?_
          refine ww_iload_n B dX8_leastAtHome_26 3 rfl ?_
          obtain ⟨i_27, h⟩ := og_i h
          refine ww_zald B 2 rfl i_27 dX8_leastAtHome_27 ?_
          refine ww_if_ne B 44 dX8_leastAtHome_28 (by decide) (fun c_28 => ?_) (fun c_28 => ?_)
          · replace h := og_f c_28 h
            exact cut_44 _ _ _ h
          · replace h := og_t c_28 h
            refine ww_aload_n B dX8_leastAtHome_31 0 rfl ?_
            refine ww_get (ci := 8) (T := TX8) (C := RX8) (N := 24) B iX8 0 rfl rfl 11 (by decide) (by decide +kernel) rfl rfl dX8_leastAtHome_32 ?_
            refine ww_iload_n B dX8_leastAtHome_35 3 rfl ?_
            obtain ⟨i_36, h⟩ := og_i h
            refine ww_iald B 1 rfl i_36 dX8_leastAtHome_36 ?_
            refine ww_if_ge B 44 dX8_leastAtHome_37 (by decide) (fun c_37 => ?_) (fun c_37 => ?_)
            · replace h := og_t c_37 h
              exact cut_44 _ _ _ h
            · replace h := og_f c_37 h
              refine ww_iload_n B dX8_leastAtHome_40 3 rfl ?_
              refine ww_goto B 45 dX8_leastAtHome_41 (by decide) ?_
              refine ww_lsel (lv' := [(0, .ref a_t), (1, .int v1), (3, .int v3)]) [0, 1, 3] rfl ?_
              exact cut_45 _ _ _ h
  refine ww_bipush B dX8_leastAtHome_0 (v := (-6)) (by decide) ?_
  refine ww_istore_n B dX8_leastAtHome_2 (lv' := [(2, .int (-6)), (0, .ref a_t), (1, .int v1)]) (by decide) rfl ?_
  refine ww_iconst B dX8_leastAtHome_3 (v := 4) (by decide) ?_
  refine ww_istore_n B dX8_leastAtHome_4 (lv' := [(3, .int 4), (2, .int (-6)), (0, .ref a_t), (1, .int v1)]) (by decide) rfl ?_
  refine ww_lsel (lv' := [(0, .ref a_t), (1, .int v1), (2, .int (-6)), (3, .int 4)]) [2, 3, 1, 0] rfl ?_
  exact cut_5 _ _ _ _ h
noncomputable def m_X8_likes (f_worths : (Nat → Int32)) (v1 : Int32) (v2 : Int32) (v3 : Int32) : Option Int32 := if 0 ≤ v3 then (ogi ((5 * v1) + v2) 30 (ogl (f_worths (Int32.toNatClampNeg ((5 * v1) + v2))) (fun (v4_16 : Int32) => ogi ((5 * v1) + v3) 30 (ogl (f_worths (Int32.toNatClampNeg ((5 * v1) + v3))) (fun (v5_28 : Int32) => if v4_16 = v5_28 then (if v3 ≤ v2 then (some 0) else (some 1)) else (if v4_16 ≤ v5_28 then (some 0) else (some 1))))))) else (some 1)
set_option maxHeartbeats 4000000 in
set_option maxRecDepth 100000 in
theorem c_X8_likes (l : Launch) (D : va_G) (cI cZ : ClassId) (a_t a_worths b_may b_voyage b_lucky b_ranks b_pad b_bears b_due b_borneBy b_gone b_sunk b_times b_whoBore b_gives b_best b_holds b_refused b_sums b_image b_isKept : Nat) (f_worths : (Nat → Int32)) (x_t_signs : Int32) (x_t_day : Int32) (x_t_reason : Int32) (x_t_asked : Int32) (v1 : Int32) (v2 : Int32) (v3 : Int32) {res : Int32} (h : m_X8_likes f_worths v1 v2 v3 = some res) : CT l yX8_likes wsX8_likes ({ frames := 0, cells := 0, slots := 0, locals := 0 } : Room) D cI cZ [.ref a_t, .int v1, .int v2, .int v3] [(a_t, .inr (8, [.ref b_may, .ref b_voyage, .ref b_lucky, .ref a_worths, .ref b_ranks, .int x_t_signs, .ref b_pad, .int x_t_day, .int x_t_reason, .ref b_bears, .ref b_due, .ref b_borneBy, .ref b_gone, .ref b_sunk, .ref b_times, .int x_t_asked, .ref b_whoBore, .ref b_gives, .ref b_best, .ref b_holds, .ref b_refused, .ref b_sums, .ref b_image, .ref b_isKept])), (a_worths, .inl (cI, 30, .inl f_worths))] (QI D [(a_t, .inr (8, [.ref b_may, .ref b_voyage, .ref b_lucky, .ref a_worths, .ref b_ranks, .int x_t_signs, .ref b_pad, .int x_t_day, .int x_t_reason, .ref b_bears, .ref b_due, .ref b_borneBy, .ref b_gone, .ref b_sunk, .ref b_times, .int x_t_asked, .ref b_whoBore, .ref b_gives, .ref b_best, .ref b_holds, .ref b_refused, .ref b_sums, .ref b_image, .ref b_isKept])), (a_worths, .inl (cI, 30, .inl f_worths))] (fun (r : Int32) (_ : Unit) => r = res) (fun (u : Unit) => [(a_t, .inr (8, [.ref b_may, .ref b_voyage, .ref b_lucky, .ref a_worths, .ref b_ranks, .int x_t_signs, .ref b_pad, .int x_t_day, .int x_t_reason, .ref b_bears, .ref b_due, .ref b_borneBy, .ref b_gone, .ref b_sunk, .ref b_times, .int x_t_asked, .ref b_whoBore, .ref b_gives, .ref b_best, .ref b_holds, .ref b_refused, .ref b_sums, .ref b_image, .ref b_isKept])), (a_worths, .inl (cI, 30, .inl f_worths))])) 0 0 := by
  have h : (if 0 ≤ v3 then (ogi ((5 * v1) + v2) 30 (ogl (f_worths (Int32.toNatClampNeg ((5 * v1) + v2))) (fun (v4_16 : Int32) => ogi ((5 * v1) + v3) 30 (ogl (f_worths (Int32.toNatClampNeg ((5 * v1) + v3))) (fun (v5_28 : Int32) => if v4_16 = v5_28 then (if v3 ≤ v2 then (some 0) else (some 1)) else (if v4_16 ≤ v5_28 then (some 0) else (some 1))))))) else (some 1) : Option Int32) = some res := h
  refine ct_entry (cc := cX8_likes) (nl := 6) (ret := (some .boolean)) (own := RX8) (lv0 := [(0, .ref a_t), (1, .int v1), (2, .int v2), (3, .int v3)]) (by decide) rfl rfl (Nat.le_of_ble_eq_true rfl) rfl ?_
  intro p e s m args below meth c A Q hA hQ hr hnm B
  have iX8 : ∀ w ∈ wsX80, w ∈ wsX8_likes := by decide +kernel
  refine ww_iload_n B dX8_likes_0 3 rfl ?_
  refine ww_if_ge B 6 dX8_likes_1 (by decide) (fun c_1 => ?_) (fun c_1 => ?_)
  · replace h := og_t c_1 h
    refine ww_aload_n B dX8_likes_6 0 rfl ?_
    refine ww_get (ci := 8) (T := TX8) (C := RX8) (N := 24) B iX8 0 rfl rfl 3 (by decide) (by decide +kernel) rfl rfl dX8_likes_7 ?_
    refine ww_iconst B dX8_likes_10 (v := 5) (by decide) ?_
    refine ww_iload_n B dX8_likes_11 1 rfl ?_
    refine ww_imul B dX8_likes_12 ?_
    refine ww_iload_n B dX8_likes_13 2 rfl ?_
    refine ww_iadd B dX8_likes_14 ?_
    obtain ⟨i_15, h⟩ := og_i h
    refine ww_iald B 1 rfl i_15 dX8_likes_15 ?_
    refine ww_topi (fun v4_16 ev4_16 => ?_)
    replace h := og_l ev4_16 h
    refine ww_istore B dX8_likes_16 (lv' := [(4, .int v4_16), (0, .ref a_t), (1, .int v1), (2, .int v2), (3, .int v3)]) (by decide) rfl ?_
    refine ww_aload_n B dX8_likes_18 1 rfl ?_
    refine ww_get (ci := 8) (T := TX8) (C := RX8) (N := 24) B iX8 0 rfl rfl 3 (by decide) (by decide +kernel) rfl rfl dX8_likes_19 ?_
    refine ww_iconst B dX8_likes_22 (v := 5) (by decide) ?_
    refine ww_iload_n B dX8_likes_23 2 rfl ?_
    refine ww_imul B dX8_likes_24 ?_
    refine ww_iload_n B dX8_likes_25 4 rfl ?_
    refine ww_iadd B dX8_likes_26 ?_
    obtain ⟨i_27, h⟩ := og_i h
    refine ww_iald B 1 rfl i_27 dX8_likes_27 ?_
    refine ww_topi (fun v5_28 ev5_28 => ?_)
    replace h := og_l ev5_28 h
    refine ww_istore B dX8_likes_28 (lv' := [(5, .int v5_28), (4, .int v4_16), (0, .ref a_t), (1, .int v1), (2, .int v2), (3, .int v3)]) (by decide) rfl ?_
    refine ww_iload B dX8_likes_30 1 rfl ?_
    refine ww_iload B dX8_likes_32 0 rfl ?_
    refine ww_icmp_eq B 52 dX8_likes_34 (by decide) (fun c_34 => ?_) (fun c_34 => ?_)
    · replace h := og_t c_34 h
      refine ww_iload_n B dX8_likes_52 4 rfl ?_
      refine ww_iload_n B dX8_likes_53 5 rfl ?_
      refine ww_icmp_ge B 61 dX8_likes_54 (by decide) (fun c_54 => ?_) (fun c_54 => ?_)
      · replace h := og_t c_54 h
        refine ww_iconst B dX8_likes_61 (v := 0) (by decide) ?_
        exact ww_zret B hA hQ hr (Or.inl rfl) dX8_likes_62 () [0, 1] rfl (by decide) (og_s h).symm
      · replace h := og_f c_54 h
        refine ww_iconst B dX8_likes_57 (v := 1) (by decide) ?_
        refine ww_goto B 62 dX8_likes_58 (by decide) ?_
        exact ww_zret B hA hQ hr (Or.inr rfl) dX8_likes_62 () [0, 1] rfl (by decide) (og_s h).symm
    · replace h := og_f c_34 h
      refine ww_iload B dX8_likes_37 1 rfl ?_
      refine ww_iload B dX8_likes_39 0 rfl ?_
      refine ww_icmp_le B 48 dX8_likes_41 (by decide) (fun c_41 => ?_) (fun c_41 => ?_)
      · replace h := og_t c_41 h
        refine ww_iconst B dX8_likes_48 (v := 0) (by decide) ?_
        refine ww_goto B 62 dX8_likes_49 (by decide) ?_
        exact ww_zret B hA hQ hr (Or.inl rfl) dX8_likes_62 () [0, 1] rfl (by decide) (og_s h).symm
      · replace h := og_f c_41 h
        refine ww_iconst B dX8_likes_44 (v := 1) (by decide) ?_
        refine ww_goto B 62 dX8_likes_45 (by decide) ?_
        exact ww_zret B hA hQ hr (Or.inr rfl) dX8_likes_62 () [0, 1] rfl (by decide) (og_s h).symm
  · replace h := og_f c_1 h
    refine ww_iconst B dX8_likes_4 (v := 1) (by decide) ?_
    exact ww_zret B hA hQ hr (Or.inr rfl) dX8_likes_5 () [0, 1] rfl (by decide) (og_s h).symm
noncomputable def m_X8_placeIn_27 (k8 : Int32 → Int32 → Int32 → Int32 → Option Int32) (v1 : Int32) (v2 : Int32) (v4 : Int32) (s0 : Int32) : Option Int32 := ogl (v2 / 10) (fun (v2_32 : Int32) => ogl (v4 + (-1)) (fun (v4_33 : Int32) => (k8 v1 v2_32 s0 v4_33)))
noncomputable def m_X8_placeIn_8b (k8 : Int32 → Int32 → Int32 → Int32 → Option Int32) (v1 : Int32) (v2 : Int32) (v3 : Int32) (v4 : Int32) : Option Int32 := if v4 < 0 then (some v3) else (if (v2 - v2 / 10 * 10) = v1 then ((m_X8_placeIn_27 k8 v1 v2 v4 v4)) else ((m_X8_placeIn_27 k8 v1 v2 v4 v3)))
noncomputable def m_X8_placeIn_8 (fuel : Nat) : Int32 → Int32 → Int32 → Int32 → Option Int32 := Nat.rec (fun _ _ _ _ => none) (fun _ k8 => m_X8_placeIn_8b k8) fuel
noncomputable def m_X8_placeIn (v0 : Int32) (v1 : Int32) : Option Int32 := (m_X8_placeIn_8 1000000 v1 v0 (-6) 5)
set_option maxHeartbeats 4000000 in
set_option maxRecDepth 100000 in
theorem c_X8_placeIn (l : Launch) (D : va_G) (cI cZ : ClassId) (v0 : Int32) (v1 : Int32) {res : Int32} (h : m_X8_placeIn v0 v1 = some res) : CT l yX8_placeIn wsX8_placeIn ({ frames := 0, cells := 0, slots := 0, locals := 0 } : Room) D cI cZ [.int v0, .int v1] [] (QI D [] (fun (r : Int32) (_ : Unit) => r = res) (fun (u : Unit) => [])) 0 0 := by
  have h : ((m_X8_placeIn_8 1000000 v1 v0 (-6) 5) : Option Int32) = some res := h
  refine ct_entry (cc := cX8_placeIn) (nl := 5) (ret := (some .int)) (own := RX8) (lv0 := [(0, .int v0), (1, .int v1)]) (by decide) rfl rfl (Nat.le_of_ble_eq_true rfl) rfl ?_
  intro p e s m args below meth c A Q hA hQ hr hnm B
  have cut_8 : ∀ (fuel : Nat) (v1 : Int32) (v2 : Int32) (v3 : Int32) (v4 : Int32), m_X8_placeIn_8 fuel v1 v2 v3 v4 = some res → WW p l e (headSpec wsX8_placeIn ({ frames := 0, cells := 0, slots := 0, locals := 0 } : Room)).room s m args below meth c D A 5 0 0 Q [] [(1, .int v1), (2, .int v2), (3, .int v3), (4, .int v4)] [] 8 := by
    intro fuel_8
    induction fuel_8 with
    | zero => intro v1 v2 v3 v4 h; exact og_0 h
    | succ fuel_8 ih_8 =>
      have cut_27 : ∀ (v1 : Int32) (v2 : Int32) (v4 : Int32) (s0 : Int32), m_X8_placeIn_27 (m_X8_placeIn_8 fuel_8) v1 v2 v4 s0 = some res → WW p l e (headSpec wsX8_placeIn ({ frames := 0, cells := 0, slots := 0, locals := 0 } : Room)).room s m args below meth c D A 5 0 0 Q [] [(1, .int v1), (2, .int v2), (4, .int v4)] [.int s0] 27 := by
        intro v1 v2 v4 s0 h
        replace h : (ogl (v2 / 10) (fun (v2_32 : Int32) => ogl (v4 + (-1)) (fun (v4_33 : Int32) => ((m_X8_placeIn_8 fuel_8) v1 v2_32 s0 v4_33))) : Option Int32) = some res := h
        refine ww_istore_n B dX8_placeIn_27 (lv' := [(3, .int s0), (1, .int v1), (2, .int v2), (4, .int v4)]) (by decide) rfl ?_
        refine ww_iload_n B dX8_placeIn_28 2 rfl ?_
        refine ww_bipush B dX8_placeIn_29 (v := 10) (by decide) ?_
        refine ww_idiv B dX8_placeIn_31 (by decide) ?_
        refine ww_topi (fun v2_32 ev2_32 => ?_)
        replace h := og_l ev2_32 h
        refine ww_istore_n B dX8_placeIn_32 (lv' := [(2, .int v2_32), (3, .int s0), (1, .int v1), (4, .int v4)]) (by decide) rfl ?_
        obtain ⟨v4_33, ev4_33⟩ : ∃ y : Int32, y = (v4 + (-1)) := ⟨_, rfl⟩
        refine ww_iinc B dX8_placeIn_33 3 rfl (v := v4_33) (by rw [ev4_33]; rfl) (by decide) (lv' := [(4, .int v4_33), (2, .int v2_32), (3, .int s0), (1, .int v1)]) rfl ?_
        replace h := og_l ev4_33 h
        refine ww_goto B 8 dX8_placeIn_36 (by decide) ?_
        refine ww_lsel (lv' := [(1, .int v1), (2, .int v2_32), (3, .int s0), (4, .int v4_33)]) [3, 1, 2, 0] rfl ?_
        exact ih_8 _ _ _ _ h
      intro v1 v2 v3 v4 h
      replace h : (if v4 < 0 then (some v3) else (if (v2 - v2 / 10 * 10) = v1 then ((m_X8_placeIn_27 (m_X8_placeIn_8 fuel_8) v1 v2 v4 v4)) else ((m_X8_placeIn_27 (m_X8_placeIn_8 fuel_8) v1 v2 v4 v3))) : Option Int32) = some res := h
      refine ww_iload B dX8_placeIn_8 3 rfl ?_
      refine ww_if_lt B 39 dX8_placeIn_10 (by decide) (fun c_10 => ?_) (fun c_10 => ?_)
      · replace h := og_t c_10 h
        refine ww_iload_n B dX8_placeIn_39 2 rfl ?_
        exact ww_iret B hA hQ hr dX8_placeIn_40 () [] rfl (by decide) (og_s h).symm
      · replace h := og_f c_10 h
        refine ww_iload_n B dX8_placeIn_13 1 rfl ?_
        refine ww_bipush B dX8_placeIn_14 (v := 10) (by decide) ?_
        refine ww_irem B dX8_placeIn_16 (by decide) ?_
        refine ww_iload_n B dX8_placeIn_17 0 rfl ?_
        refine ww_icmp_ne B 26 dX8_placeIn_18 (by decide) (fun c_18 => ?_) (fun c_18 => ?_)
        · replace h := og_f c_18 h
          refine ww_iload_n B dX8_placeIn_26 2 rfl ?_
          refine ww_lsel (lv' := [(1, .int v1), (2, .int v2), (4, .int v4)]) [0, 1, 3] rfl ?_
          exact cut_27 _ _ _ _ h
        · replace h := og_t c_18 h
          refine ww_iload B dX8_placeIn_21 3 rfl ?_
          refine ww_goto B 27 dX8_placeIn_23 (by decide) ?_
          refine ww_lsel (lv' := [(1, .int v1), (2, .int v2), (4, .int v4)]) [0, 1, 3] rfl ?_
          exact cut_27 _ _ _ _ h
  refine ww_iload_n B dX8_placeIn_0 0 rfl ?_
  refine ww_istore_n B dX8_placeIn_1 (lv' := [(2, .int v0), (0, .int v0), (1, .int v1)]) (by decide) rfl ?_
  refine ww_bipush B dX8_placeIn_2 (v := (-6)) (by decide) ?_
  refine ww_istore_n B dX8_placeIn_4 (lv' := [(3, .int (-6)), (2, .int v0), (0, .int v0), (1, .int v1)]) (by decide) rfl ?_
  refine ww_iconst B dX8_placeIn_5 (v := 5) (by decide) ?_
  refine ww_istore B dX8_placeIn_6 (lv' := [(4, .int 5), (3, .int (-6)), (2, .int v0), (0, .int v0), (1, .int v1)]) (by decide) rfl ?_
  refine ww_lsel (lv' := [(1, .int v1), (2, .int v0), (3, .int (-6)), (4, .int 5)]) [4, 2, 1, 0] rfl ?_
  exact cut_8 _ _ _ _ _ h
noncomputable def m_X8_likesHull (f_ranks : (Nat → Int32)) (v1 : Int32) (v2 : Int32) (v3 : Int32) : Option Int32 := if v3 < 0 then (some 1) else (ogi v1 5 (ogb (m_X8_placeIn (f_ranks (Int32.toNatClampNeg v1)) v2) (fun q_11 => ogi v1 5 (ogb (m_X8_placeIn (f_ranks (Int32.toNatClampNeg v1)) v3) (fun q_21 => if q_21 ≤ q_11 then (some 0) else (some 1))))))
set_option maxHeartbeats 4000000 in
set_option maxRecDepth 100000 in
theorem c_X8_likesHull (l : Launch) (D : va_G) (cI cZ : ClassId) (a_t a_ranks b_may b_voyage b_lucky b_worths b_pad b_bears b_due b_borneBy b_gone b_sunk b_times b_whoBore b_gives b_best b_holds b_refused b_sums b_image b_isKept : Nat) (f_ranks : (Nat → Int32)) (x_t_signs : Int32) (x_t_day : Int32) (x_t_reason : Int32) (x_t_asked : Int32) (v1 : Int32) (v2 : Int32) (v3 : Int32) {res : Int32} (h : m_X8_likesHull f_ranks v1 v2 v3 = some res) : CT l yX8_likesHull wsX8_likesHull ({ frames := 1, cells := 0, slots := 0, locals := 24 } : Room) D cI cZ [.ref a_t, .int v1, .int v2, .int v3] [(a_t, .inr (8, [.ref b_may, .ref b_voyage, .ref b_lucky, .ref b_worths, .ref a_ranks, .int x_t_signs, .ref b_pad, .int x_t_day, .int x_t_reason, .ref b_bears, .ref b_due, .ref b_borneBy, .ref b_gone, .ref b_sunk, .ref b_times, .int x_t_asked, .ref b_whoBore, .ref b_gives, .ref b_best, .ref b_holds, .ref b_refused, .ref b_sums, .ref b_image, .ref b_isKept])), (a_ranks, .inl (cI, 5, .inl f_ranks))] (QI D [(a_t, .inr (8, [.ref b_may, .ref b_voyage, .ref b_lucky, .ref b_worths, .ref a_ranks, .int x_t_signs, .ref b_pad, .int x_t_day, .int x_t_reason, .ref b_bears, .ref b_due, .ref b_borneBy, .ref b_gone, .ref b_sunk, .ref b_times, .int x_t_asked, .ref b_whoBore, .ref b_gives, .ref b_best, .ref b_holds, .ref b_refused, .ref b_sums, .ref b_image, .ref b_isKept])), (a_ranks, .inl (cI, 5, .inl f_ranks))] (fun (r : Int32) (_ : Unit) => r = res) (fun (u : Unit) => [(a_t, .inr (8, [.ref b_may, .ref b_voyage, .ref b_lucky, .ref b_worths, .ref a_ranks, .int x_t_signs, .ref b_pad, .int x_t_day, .int x_t_reason, .ref b_bears, .ref b_due, .ref b_borneBy, .ref b_gone, .ref b_sunk, .ref b_times, .int x_t_asked, .ref b_whoBore, .ref b_gives, .ref b_best, .ref b_holds, .ref b_refused, .ref b_sums, .ref b_image, .ref b_isKept])), (a_ranks, .inl (cI, 5, .inl f_ranks))])) 0 0 := by
  have h : (if v3 < 0 then (some 1) else (ogi v1 5 (ogb (m_X8_placeIn (f_ranks (Int32.toNatClampNeg v1)) v2) (fun q_11 => ogi v1 5 (ogb (m_X8_placeIn (f_ranks (Int32.toNatClampNeg v1)) v3) (fun q_21 => if q_21 ≤ q_11 then (some 0) else (some 1)))))) : Option Int32) = some res := h
  refine ct_entry (cc := cX8_likesHull) (nl := 4) (ret := (some .boolean)) (own := RX8) (lv0 := [(0, .ref a_t), (1, .int v1), (2, .int v2), (3, .int v3)]) (by decide) rfl rfl (Nat.le_of_ble_eq_true rfl) rfl ?_
  intro p e s m args below meth c A Q hA hQ hr hnm B
  have iX8 : ∀ w ∈ wsX80, w ∈ wsX8_likesHull := by decide +kernel
  refine ww_iload_n B dX8_likesHull_0 3 rfl ?_
  refine ww_if_lt B 27 dX8_likesHull_1 (by decide) (fun c_1 => ?_) (fun c_1 => ?_)
  · replace h := og_t c_1 h
    refine ww_iconst B dX8_likesHull_27 (v := 1) (by decide) ?_
    refine ww_goto B 32 dX8_likesHull_28 (by decide) ?_
    exact ww_zret B hA hQ hr (Or.inr rfl) dX8_likesHull_32 () [0, 1] rfl (by decide) (og_s h).symm
  · replace h := og_f c_1 h
    refine ww_aload_n B dX8_likesHull_4 0 rfl ?_
    refine ww_get (ci := 8) (T := TX8) (C := RX8) (N := 24) B iX8 0 rfl rfl 4 (by decide) (by decide +kernel) rfl rfl dX8_likesHull_5 ?_
    refine ww_iload_n B dX8_likesHull_8 1 rfl ?_
    obtain ⟨i_9, h⟩ := og_i h
    refine ww_iald B 1 rfl i_9 dX8_likesHull_9 ?_
    refine ww_iload_n B dX8_likesHull_10 2 rfl ?_
    obtain ⟨q_11, hq_11, h⟩ := og_b h
    refine ww_ci0 B (k' := 0) (n' := 0) rfl rfl [] [0, 1] (wr := [(a_t, .inr (8, [.ref b_may, .ref b_voyage, .ref b_lucky, .ref b_worths, .ref a_ranks, .int x_t_signs, .ref b_pad, .int x_t_day, .int x_t_reason, .ref b_bears, .ref b_due, .ref b_borneBy, .ref b_gone, .ref b_sunk, .ref b_times, .int x_t_asked, .ref b_whoBore, .ref b_gives, .ref b_best, .ref b_holds, .ref b_refused, .ref b_sums, .ref b_image, .ref b_isKept])), (a_ranks, .inl (cI, 5, .inl f_ranks))]) (st := []) rfl rfl (by decide) (rr_S B (c_X8_placeIn l D cI cZ (f_ranks (Int32.toNatClampNeg v1)) v2 hq_11) gX8_likesHull_X8_placeIn rfl rfl rfl (N := 2) rfl (by decide +kernel) ⟨Nat.le_of_ble_eq_true rfl, Nat.le_of_ble_eq_true rfl⟩ rfl dX8_likesHull_11 (Nat.le_of_ble_eq_true rfl) ⟨Nat.le_of_ble_eq_true rfl, Nat.le_of_ble_eq_true rfl⟩) (ws' := [(a_t, .inr (8, [.ref b_may, .ref b_voyage, .ref b_lucky, .ref b_worths, .ref a_ranks, .int x_t_signs, .ref b_pad, .int x_t_day, .int x_t_reason, .ref b_bears, .ref b_due, .ref b_borneBy, .ref b_gone, .ref b_sunk, .ref b_times, .int x_t_asked, .ref b_whoBore, .ref b_gives, .ref b_best, .ref b_holds, .ref b_refused, .ref b_sums, .ref b_image, .ref b_isKept])), (a_ranks, .inl (cI, 5, .inl f_ranks))]) rfl ?_
    refine ww_aload_n B dX8_likesHull_14 0 rfl ?_
    refine ww_get (ci := 8) (T := TX8) (C := RX8) (N := 24) B iX8 0 rfl rfl 4 (by decide) (by decide +kernel) rfl rfl dX8_likesHull_15 ?_
    refine ww_iload_n B dX8_likesHull_18 1 rfl ?_
    obtain ⟨i_19, h⟩ := og_i h
    refine ww_iald B 1 rfl i_19 dX8_likesHull_19 ?_
    refine ww_iload_n B dX8_likesHull_20 3 rfl ?_
    obtain ⟨q_21, hq_21, h⟩ := og_b h
    refine ww_ci0 B (k' := 0) (n' := 0) rfl rfl [] [0, 1] (wr := [(a_t, .inr (8, [.ref b_may, .ref b_voyage, .ref b_lucky, .ref b_worths, .ref a_ranks, .int x_t_signs, .ref b_pad, .int x_t_day, .int x_t_reason, .ref b_bears, .ref b_due, .ref b_borneBy, .ref b_gone, .ref b_sunk, .ref b_times, .int x_t_asked, .ref b_whoBore, .ref b_gives, .ref b_best, .ref b_holds, .ref b_refused, .ref b_sums, .ref b_image, .ref b_isKept])), (a_ranks, .inl (cI, 5, .inl f_ranks))]) (st := [.int q_11]) rfl rfl (by decide) (rr_S B (c_X8_placeIn l D cI cZ (f_ranks (Int32.toNatClampNeg v1)) v3 hq_21) gX8_likesHull_X8_placeIn rfl rfl rfl (N := 2) rfl (by decide +kernel) ⟨Nat.le_of_ble_eq_true rfl, Nat.le_of_ble_eq_true rfl⟩ rfl dX8_likesHull_21 (Nat.le_of_ble_eq_true rfl) ⟨Nat.le_of_ble_eq_true rfl, Nat.le_of_ble_eq_true rfl⟩) (ws' := [(a_t, .inr (8, [.ref b_may, .ref b_voyage, .ref b_lucky, .ref b_worths, .ref a_ranks, .int x_t_signs, .ref b_pad, .int x_t_day, .int x_t_reason, .ref b_bears, .ref b_due, .ref b_borneBy, .ref b_gone, .ref b_sunk, .ref b_times, .int x_t_asked, .ref b_whoBore, .ref b_gives, .ref b_best, .ref b_holds, .ref b_refused, .ref b_sums, .ref b_image, .ref b_isKept])), (a_ranks, .inl (cI, 5, .inl f_ranks))]) rfl ?_
    refine ww_icmp_ge B 31 dX8_likesHull_24 (by decide) (fun c_24 => ?_) (fun c_24 => ?_)
    · replace h := og_t c_24 h
      refine ww_iconst B dX8_likesHull_31 (v := 0) (by decide) ?_
      exact ww_zret B hA hQ hr (Or.inl rfl) dX8_likesHull_32 () [0, 1] rfl (by decide) (og_s h).symm
    · replace h := og_f c_24 h
      refine ww_iconst B dX8_likesHull_27 (v := 1) (by decide) ?_
      refine ww_goto B 32 dX8_likesHull_28 (by decide) ?_
      exact ww_zret B hA hQ hr (Or.inr rfl) dX8_likesHull_32 () [0, 1] rfl (by decide) (og_s h).symm
noncomputable def m_X8_leave_151 (k37 : Int32 → Int32 → Int32 → Int32 → (Nat → Int32) → Option (Int32 × ((Nat → Int32)))) (k47 : Int32 → Int32 → Int32 → Int32 → Int32 → (Nat → Int32) → Option (Int32 × ((Nat → Int32)))) (f_may : (Nat → Int32)) (f_ranks : (Nat → Int32)) (f_worths : (Nat → Int32)) (v1 : Int32) (v2 : Int32) (v4 : Int32) (v5 : Int32) (v6 : Int32) (f_gives : (Nat → Int32)) : Option (Int32 × ((Nat → Int32))) := ogl (v6 + 1) (fun (v6_151 : Int32) => (k47 v1 v2 v4 v5 v6_151 f_gives))
noncomputable def m_X8_leave_96 (k37 : Int32 → Int32 → Int32 → Int32 → (Nat → Int32) → Option (Int32 × ((Nat → Int32)))) (k47 : Int32 → Int32 → Int32 → Int32 → Int32 → (Nat → Int32) → Option (Int32 × ((Nat → Int32)))) (f_may : (Nat → Int32)) (f_ranks : (Nat → Int32)) (f_worths : (Nat → Int32)) (v1 : Int32) (v2 : Int32) (v4 : Int32) (v5 : Int32) (v6 : Int32) (s0 : Int32) (f_gives : (Nat → Int32)) : Option (Int32 × ((Nat → Int32))) := if s0 = 0 then ((m_X8_leave_151 k37 k47 f_may f_ranks f_worths v1 v2 v4 v5 v6 f_gives)) else (ogi v5 6 (ogb (m_X8_likes f_worths v5 v6 (f_gives (Int32.toNatClampNeg v5))) (fun q_115 => if q_115 = 0 then ((m_X8_leave_151 k37 k47 f_may f_ranks f_worths v1 v2 v4 v5 v6 f_gives)) else (ogb (m_X8_holderOf f_gives v6) (fun q_129 => ogb (m_X8_likesHull f_ranks v6 v5 q_129) (fun q_132 => if q_132 = 0 then ((m_X8_leave_151 k37 k47 f_may f_ranks f_worths v1 v2 v4 v5 v6 f_gives)) else (if v4 = 0 then (some (v5, f_gives)) else (some (v6, f_gives)))))))))
noncomputable def m_X8_leave_95 (k37 : Int32 → Int32 → Int32 → Int32 → (Nat → Int32) → Option (Int32 × ((Nat → Int32)))) (k47 : Int32 → Int32 → Int32 → Int32 → Int32 → (Nat → Int32) → Option (Int32 × ((Nat → Int32)))) (f_may : (Nat → Int32)) (f_ranks : (Nat → Int32)) (f_worths : (Nat → Int32)) (v1 : Int32) (v2 : Int32) (v4 : Int32) (v5 : Int32) (v6 : Int32) (f_gives : (Nat → Int32)) : Option (Int32 × ((Nat → Int32))) := (m_X8_leave_96 k37 k47 f_may f_ranks f_worths v1 v2 v4 v5 v6 0 f_gives)
noncomputable def m_X8_leave_47b (k37 : Int32 → Int32 → Int32 → Int32 → (Nat → Int32) → Option (Int32 × ((Nat → Int32)))) (k47 : Int32 → Int32 → Int32 → Int32 → Int32 → (Nat → Int32) → Option (Int32 × ((Nat → Int32)))) (f_may : (Nat → Int32)) (f_ranks : (Nat → Int32)) (f_worths : (Nat → Int32)) (v1 : Int32) (v2 : Int32) (v4 : Int32) (v5 : Int32) (v6 : Int32) (f_gives : (Nat → Int32)) : Option (Int32 × ((Nat → Int32))) := if 5 ≤ v6 then (ogl (v5 + 1) (fun (v5_157 : Int32) => (k37 v1 v2 v4 v5_157 f_gives))) else (ogb (m_X8_has v1 v5) (fun q_56 => if q_56 = 0 then ((m_X8_leave_95 k37 k47 f_may f_ranks f_worths v1 v2 v4 v5 v6 f_gives)) else (ogi v5 6 (ogb (m_X8_has (v2 &&& (f_may (Int32.toNatClampNeg v5))) v6) (fun q_73 => if q_73 = 0 then ((m_X8_leave_95 k37 k47 f_may f_ranks f_worths v1 v2 v4 v5 v6 f_gives)) else (ogi v5 6 (if (f_gives (Int32.toNatClampNeg v5)) = v6 then ((m_X8_leave_95 k37 k47 f_may f_ranks f_worths v1 v2 v4 v5 v6 f_gives)) else ((m_X8_leave_96 k37 k47 f_may f_ranks f_worths v1 v2 v4 v5 v6 1 f_gives)))))))))
noncomputable def m_X8_leave_47 (k37 : Int32 → Int32 → Int32 → Int32 → (Nat → Int32) → Option (Int32 × ((Nat → Int32)))) (f_may : (Nat → Int32)) (f_ranks : (Nat → Int32)) (f_worths : (Nat → Int32)) (fuel : Nat) : Int32 → Int32 → Int32 → Int32 → Int32 → (Nat → Int32) → Option (Int32 × ((Nat → Int32))) := Nat.rec (fun _ _ _ _ _ _ => none) (fun _ k47 => m_X8_leave_47b k37 k47 f_may f_ranks f_worths) fuel
noncomputable def m_X8_leave_37b (k37 : Int32 → Int32 → Int32 → Int32 → (Nat → Int32) → Option (Int32 × ((Nat → Int32)))) (f_may : (Nat → Int32)) (f_ranks : (Nat → Int32)) (f_worths : (Nat → Int32)) (v1 : Int32) (v2 : Int32) (v4 : Int32) (v5 : Int32) (f_gives : (Nat → Int32)) : Option (Int32 × ((Nat → Int32))) := if 6 ≤ v5 then (some ((-6), f_gives)) else ((m_X8_leave_47 k37 f_may f_ranks f_worths 1000000 v1 v2 v4 v5 0 f_gives))
noncomputable def m_X8_leave_37 (f_may : (Nat → Int32)) (f_ranks : (Nat → Int32)) (f_worths : (Nat → Int32)) (fuel : Nat) : Int32 → Int32 → Int32 → Int32 → (Nat → Int32) → Option (Int32 × ((Nat → Int32))) := Nat.rec (fun _ _ _ _ _ => none) (fun _ k37 => m_X8_leave_37b k37 f_may f_ranks f_worths) fuel
noncomputable def m_X8_leave (f_may : (Nat → Int32)) (f_ranks : (Nat → Int32)) (f_worths : (Nat → Int32)) (f_gives : (Nat → Int32)) (v1 : Int32) (v2 : Int32) (v3 : Int32) (v4 : Int32) : Option (Int32 × ((Nat → Int32))) := ogb (m_X8_areSets v1 v2) (fun q_2 => if q_2 = 0 then (some ((-2), f_gives)) else (ogb (m_X8_in v4 0 1) (fun q_12 => if q_12 = 0 then (some ((-2), f_gives)) else (ogb (m_X8_layNumber f_may f_gives v3 v1 v2) (fun q_25 => if q_25.1 = 0 then (some ((-3), q_25.2)) else ((m_X8_leave_37 f_may f_ranks f_worths 1000000 v1 v2 v4 0 q_25.2)))))))
set_option maxHeartbeats 4000000 in
set_option maxRecDepth 100000 in
theorem c_X8_leave (l : Launch) (D : va_G) (cI cZ : ClassId) (a_t a_gives a_may a_ranks a_worths b_voyage b_lucky b_pad b_bears b_due b_borneBy b_gone b_sunk b_times b_whoBore b_best b_holds b_refused b_sums b_image b_isKept : Nat) (f_gives : (Nat → Int32)) (f_may : (Nat → Int32)) (f_ranks : (Nat → Int32)) (f_worths : (Nat → Int32)) (x_t_signs : Int32) (x_t_day : Int32) (x_t_reason : Int32) (x_t_asked : Int32) (v1 : Int32) (v2 : Int32) (v3 : Int32) (v4 : Int32) {res : (Int32 × ((Nat → Int32)))} (h : m_X8_leave f_may f_ranks f_worths f_gives v1 v2 v3 v4 = some res) : CT l yX8_leave wsX8_leave ({ frames := 3, cells := 0, slots := 0, locals := 78 } : Room) D cI cZ [.ref a_t, .int v1, .int v2, .int v3, .int v4] [(a_t, .inr (8, [.ref a_may, .ref b_voyage, .ref b_lucky, .ref a_worths, .ref a_ranks, .int x_t_signs, .ref b_pad, .int x_t_day, .int x_t_reason, .ref b_bears, .ref b_due, .ref b_borneBy, .ref b_gone, .ref b_sunk, .ref b_times, .int x_t_asked, .ref b_whoBore, .ref a_gives, .ref b_best, .ref b_holds, .ref b_refused, .ref b_sums, .ref b_image, .ref b_isKept])), (a_gives, .inl (cI, 6, .inl f_gives)), (a_may, .inl (cI, 6, .inl f_may)), (a_ranks, .inl (cI, 5, .inl f_ranks)), (a_worths, .inl (cI, 30, .inl f_worths))] (QI D [(a_t, .inr (8, [.ref a_may, .ref b_voyage, .ref b_lucky, .ref a_worths, .ref a_ranks, .int x_t_signs, .ref b_pad, .int x_t_day, .int x_t_reason, .ref b_bears, .ref b_due, .ref b_borneBy, .ref b_gone, .ref b_sunk, .ref b_times, .int x_t_asked, .ref b_whoBore, .ref a_gives, .ref b_best, .ref b_holds, .ref b_refused, .ref b_sums, .ref b_image, .ref b_isKept])), (a_gives, .inl (cI, 6, .inl f_gives)), (a_may, .inl (cI, 6, .inl f_may)), (a_ranks, .inl (cI, 5, .inl f_ranks)), (a_worths, .inl (cI, 30, .inl f_worths))] (fun (r : Int32) (u : (Nat → Int32)) => r = res.1 ∧ u = res.2) (fun (u : (Nat → Int32)) => [(a_t, .inr (8, [.ref a_may, .ref b_voyage, .ref b_lucky, .ref a_worths, .ref a_ranks, .int x_t_signs, .ref b_pad, .int x_t_day, .int x_t_reason, .ref b_bears, .ref b_due, .ref b_borneBy, .ref b_gone, .ref b_sunk, .ref b_times, .int x_t_asked, .ref b_whoBore, .ref a_gives, .ref b_best, .ref b_holds, .ref b_refused, .ref b_sums, .ref b_image, .ref b_isKept])), (a_gives, .inl (cI, 6, .inl u)), (a_may, .inl (cI, 6, .inl f_may)), (a_ranks, .inl (cI, 5, .inl f_ranks)), (a_worths, .inl (cI, 30, .inl f_worths))])) 0 0 := by
  have h : (ogb (m_X8_areSets v1 v2) (fun q_2 => if q_2 = 0 then (some ((-2), f_gives)) else (ogb (m_X8_in v4 0 1) (fun q_12 => if q_12 = 0 then (some ((-2), f_gives)) else (ogb (m_X8_layNumber f_may f_gives v3 v1 v2) (fun q_25 => if q_25.1 = 0 then (some ((-3), q_25.2)) else ((m_X8_leave_37 f_may f_ranks f_worths 1000000 v1 v2 v4 0 q_25.2))))))) : Option (Int32 × ((Nat → Int32)))) = some res := h
  refine ct_entry (cc := cX8_leave) (nl := 8) (ret := (some .int)) (own := RX8) (lv0 := [(0, .ref a_t), (1, .int v1), (2, .int v2), (3, .int v3), (4, .int v4)]) (by decide) rfl rfl (Nat.le_of_ble_eq_true rfl) rfl ?_
  intro p e s m args below meth c A Q hA hQ hr hnm B
  have iX8 : ∀ w ∈ wsX80, w ∈ wsX8_leave := by decide +kernel
  have cut_37 : ∀ (fuel : Nat) (v1 : Int32) (v2 : Int32) (v4 : Int32) (v5 : Int32) (f_gives : (Nat → Int32)), m_X8_leave_37 f_may f_ranks f_worths fuel v1 v2 v4 v5 f_gives = some res → WW p l e (headSpec wsX8_leave ({ frames := 3, cells := 0, slots := 0, locals := 78 } : Room)).room s m args below meth c D A 8 0 0 Q [(a_t, .inr (8, [.ref a_may, .ref b_voyage, .ref b_lucky, .ref a_worths, .ref a_ranks, .int x_t_signs, .ref b_pad, .int x_t_day, .int x_t_reason, .ref b_bears, .ref b_due, .ref b_borneBy, .ref b_gone, .ref b_sunk, .ref b_times, .int x_t_asked, .ref b_whoBore, .ref a_gives, .ref b_best, .ref b_holds, .ref b_refused, .ref b_sums, .ref b_image, .ref b_isKept])), (a_gives, .inl (cI, 6, .inl f_gives)), (a_may, .inl (cI, 6, .inl f_may)), (a_ranks, .inl (cI, 5, .inl f_ranks)), (a_worths, .inl (cI, 30, .inl f_worths))] [(0, .ref a_t), (1, .int v1), (2, .int v2), (4, .int v4), (5, .int v5)] [] 37 := by
    intro fuel_37
    induction fuel_37 with
    | zero => intro v1 v2 v4 v5 f_gives h; exact og_0 h
    | succ fuel_37 ih_37 =>
      have cut_47 : ∀ (fuel : Nat) (v1 : Int32) (v2 : Int32) (v4 : Int32) (v5 : Int32) (v6 : Int32) (f_gives : (Nat → Int32)), m_X8_leave_47 (m_X8_leave_37 f_may f_ranks f_worths fuel_37) f_may f_ranks f_worths fuel v1 v2 v4 v5 v6 f_gives = some res → WW p l e (headSpec wsX8_leave ({ frames := 3, cells := 0, slots := 0, locals := 78 } : Room)).room s m args below meth c D A 8 0 0 Q [(a_t, .inr (8, [.ref a_may, .ref b_voyage, .ref b_lucky, .ref a_worths, .ref a_ranks, .int x_t_signs, .ref b_pad, .int x_t_day, .int x_t_reason, .ref b_bears, .ref b_due, .ref b_borneBy, .ref b_gone, .ref b_sunk, .ref b_times, .int x_t_asked, .ref b_whoBore, .ref a_gives, .ref b_best, .ref b_holds, .ref b_refused, .ref b_sums, .ref b_image, .ref b_isKept])), (a_gives, .inl (cI, 6, .inl f_gives)), (a_may, .inl (cI, 6, .inl f_may)), (a_ranks, .inl (cI, 5, .inl f_ranks)), (a_worths, .inl (cI, 30, .inl f_worths))] [(0, .ref a_t), (1, .int v1), (2, .int v2), (4, .int v4), (5, .int v5), (6, .int v6)] [] 47 := by
        intro fuel_47
        induction fuel_47 with
        | zero => intro v1 v2 v4 v5 v6 f_gives h; exact og_0 h
        | succ fuel_47 ih_47 =>
          have cut_151 : ∀ (v1 : Int32) (v2 : Int32) (v4 : Int32) (v5 : Int32) (v6 : Int32) (f_gives : (Nat → Int32)), m_X8_leave_151 (m_X8_leave_37 f_may f_ranks f_worths fuel_37) (m_X8_leave_47 (m_X8_leave_37 f_may f_ranks f_worths fuel_37) f_may f_ranks f_worths fuel_47) f_may f_ranks f_worths v1 v2 v4 v5 v6 f_gives = some res → WW p l e (headSpec wsX8_leave ({ frames := 3, cells := 0, slots := 0, locals := 78 } : Room)).room s m args below meth c D A 8 0 0 Q [(a_t, .inr (8, [.ref a_may, .ref b_voyage, .ref b_lucky, .ref a_worths, .ref a_ranks, .int x_t_signs, .ref b_pad, .int x_t_day, .int x_t_reason, .ref b_bears, .ref b_due, .ref b_borneBy, .ref b_gone, .ref b_sunk, .ref b_times, .int x_t_asked, .ref b_whoBore, .ref a_gives, .ref b_best, .ref b_holds, .ref b_refused, .ref b_sums, .ref b_image, .ref b_isKept])), (a_gives, .inl (cI, 6, .inl f_gives)), (a_may, .inl (cI, 6, .inl f_may)), (a_ranks, .inl (cI, 5, .inl f_ranks)), (a_worths, .inl (cI, 30, .inl f_worths))] [(0, .ref a_t), (1, .int v1), (2, .int v2), (4, .int v4), (5, .int v5), (6, .int v6)] [] 151 := by
            intro v1 v2 v4 v5 v6 f_gives h
            replace h : (ogl (v6 + 1) (fun (v6_151 : Int32) => ((m_X8_leave_47 (m_X8_leave_37 f_may f_ranks f_worths fuel_37) f_may f_ranks f_worths fuel_47) v1 v2 v4 v5 v6_151 f_gives)) : Option (Int32 × ((Nat → Int32)))) = some res := h
            obtain ⟨v6_151, ev6_151⟩ : ∃ y : Int32, y = (v6 + 1) := ⟨_, rfl⟩
            refine ww_iinc B dX8_leave_151 5 rfl (v := v6_151) (by rw [ev6_151]; rfl) (by decide) (lv' := [(6, .int v6_151), (0, .ref a_t), (1, .int v1), (2, .int v2), (4, .int v4), (5, .int v5)]) rfl ?_
            replace h := og_l ev6_151 h
            refine ww_goto B 47 dX8_leave_154 (by decide) ?_
            refine ww_lsel (lv' := [(0, .ref a_t), (1, .int v1), (2, .int v2), (4, .int v4), (5, .int v5), (6, .int v6_151)]) [1, 2, 3, 4, 5, 0] rfl ?_
            exact ih_47 _ _ _ _ _ _ h
          have cut_96 : ∀ (v1 : Int32) (v2 : Int32) (v4 : Int32) (v5 : Int32) (v6 : Int32) (s0 : Int32) (f_gives : (Nat → Int32)), m_X8_leave_96 (m_X8_leave_37 f_may f_ranks f_worths fuel_37) (m_X8_leave_47 (m_X8_leave_37 f_may f_ranks f_worths fuel_37) f_may f_ranks f_worths fuel_47) f_may f_ranks f_worths v1 v2 v4 v5 v6 s0 f_gives = some res → WW p l e (headSpec wsX8_leave ({ frames := 3, cells := 0, slots := 0, locals := 78 } : Room)).room s m args below meth c D A 8 0 0 Q [(a_t, .inr (8, [.ref a_may, .ref b_voyage, .ref b_lucky, .ref a_worths, .ref a_ranks, .int x_t_signs, .ref b_pad, .int x_t_day, .int x_t_reason, .ref b_bears, .ref b_due, .ref b_borneBy, .ref b_gone, .ref b_sunk, .ref b_times, .int x_t_asked, .ref b_whoBore, .ref a_gives, .ref b_best, .ref b_holds, .ref b_refused, .ref b_sums, .ref b_image, .ref b_isKept])), (a_gives, .inl (cI, 6, .inl f_gives)), (a_may, .inl (cI, 6, .inl f_may)), (a_ranks, .inl (cI, 5, .inl f_ranks)), (a_worths, .inl (cI, 30, .inl f_worths))] [(0, .ref a_t), (1, .int v1), (2, .int v2), (4, .int v4), (5, .int v5), (6, .int v6)] [.int s0] 96 := by
            intro v1 v2 v4 v5 v6 s0 f_gives h
            replace h : (if s0 = 0 then ((m_X8_leave_151 (m_X8_leave_37 f_may f_ranks f_worths fuel_37) (m_X8_leave_47 (m_X8_leave_37 f_may f_ranks f_worths fuel_37) f_may f_ranks f_worths fuel_47) f_may f_ranks f_worths v1 v2 v4 v5 v6 f_gives)) else (ogi v5 6 (ogb (m_X8_likes f_worths v5 v6 (f_gives (Int32.toNatClampNeg v5))) (fun q_115 => if q_115 = 0 then ((m_X8_leave_151 (m_X8_leave_37 f_may f_ranks f_worths fuel_37) (m_X8_leave_47 (m_X8_leave_37 f_may f_ranks f_worths fuel_37) f_may f_ranks f_worths fuel_47) f_may f_ranks f_worths v1 v2 v4 v5 v6 f_gives)) else (ogb (m_X8_holderOf f_gives v6) (fun q_129 => ogb (m_X8_likesHull f_ranks v6 v5 q_129) (fun q_132 => if q_132 = 0 then ((m_X8_leave_151 (m_X8_leave_37 f_may f_ranks f_worths fuel_37) (m_X8_leave_47 (m_X8_leave_37 f_may f_ranks f_worths fuel_37) f_may f_ranks f_worths fuel_47) f_may f_ranks f_worths v1 v2 v4 v5 v6 f_gives)) else (if v4 = 0 then (some (v5, f_gives)) else (some (v6, f_gives))))))))) : Option (Int32 × ((Nat → Int32)))) = some res := h
            refine ww_istore B dX8_leave_96 (lv' := [(7, .int s0), (0, .ref a_t), (1, .int v1), (2, .int v2), (4, .int v4), (5, .int v5), (6, .int v6)]) (by decide) rfl ?_
            refine ww_iload B dX8_leave_98 0 rfl ?_
            refine ww_if_eq B 151 dX8_leave_100 (by decide) (fun c_100 => ?_) (fun c_100 => ?_)
            · replace h := og_t c_100 h
              refine ww_lsel (lv' := [(0, .ref a_t), (1, .int v1), (2, .int v2), (4, .int v4), (5, .int v5), (6, .int v6)]) [1, 2, 3, 4, 5, 6] rfl ?_
              exact cut_151 _ _ _ _ _ _ h
            · replace h := og_f c_100 h
              refine ww_aload_n B dX8_leave_103 1 rfl ?_
              refine ww_iload B dX8_leave_104 5 rfl ?_
              refine ww_iload B dX8_leave_106 6 rfl ?_
              refine ww_aload_n B dX8_leave_108 1 rfl ?_
              refine ww_get (ci := 8) (T := TX8) (C := RX8) (N := 24) B iX8 0 rfl rfl 17 (by decide) (by decide +kernel) rfl rfl dX8_leave_109 ?_
              refine ww_iload B dX8_leave_112 5 rfl ?_
              obtain ⟨i_114, h⟩ := og_i h
              refine ww_iald B 1 rfl i_114 dX8_leave_114 ?_
              obtain ⟨q_115, hq_115, h⟩ := og_b h
              refine ww_ci0 B (k' := 0) (n' := 0) rfl rfl [0, 4] [1, 2, 3] (wr := [(a_gives, .inl (cI, 6, .inl f_gives)), (a_may, .inl (cI, 6, .inl f_may)), (a_ranks, .inl (cI, 5, .inl f_ranks))]) (st := []) rfl rfl (by decide) (rr_V B (c_X8_likes l D cI cZ a_t a_worths a_may b_voyage b_lucky a_ranks b_pad b_bears b_due b_borneBy b_gone b_sunk b_times b_whoBore a_gives b_best b_holds b_refused b_sums b_image b_isKept f_worths x_t_signs x_t_day x_t_reason x_t_asked v5 v6 (f_gives (Int32.toNatClampNeg v5)) hq_115) gX8_leave_X8_likes rfl rfl rfl (N := 3) rfl (by decide +kernel) ⟨Nat.le_of_ble_eq_true rfl, Nat.le_of_ble_eq_true rfl⟩ rfl dX8_leave_115 0 rfl rfl (Nat.le_of_ble_eq_true rfl) ⟨Nat.le_of_ble_eq_true rfl, Nat.le_of_ble_eq_true rfl⟩) (ws' := [(a_gives, .inl (cI, 6, .inl f_gives)), (a_may, .inl (cI, 6, .inl f_may)), (a_ranks, .inl (cI, 5, .inl f_ranks)), (a_t, .inr (8, [.ref a_may, .ref b_voyage, .ref b_lucky, .ref a_worths, .ref a_ranks, .int x_t_signs, .ref b_pad, .int x_t_day, .int x_t_reason, .ref b_bears, .ref b_due, .ref b_borneBy, .ref b_gone, .ref b_sunk, .ref b_times, .int x_t_asked, .ref b_whoBore, .ref a_gives, .ref b_best, .ref b_holds, .ref b_refused, .ref b_sums, .ref b_image, .ref b_isKept])), (a_worths, .inl (cI, 30, .inl f_worths))]) rfl ?_
              refine ww_if_eq B 151 dX8_leave_118 (by decide) (fun c_118 => ?_) (fun c_118 => ?_)
              · replace h := og_t c_118 h
                refine ww_sub (ws' := [(a_t, .inr (8, [.ref a_may, .ref b_voyage, .ref b_lucky, .ref a_worths, .ref a_ranks, .int x_t_signs, .ref b_pad, .int x_t_day, .int x_t_reason, .ref b_bears, .ref b_due, .ref b_borneBy, .ref b_gone, .ref b_sunk, .ref b_times, .int x_t_asked, .ref b_whoBore, .ref a_gives, .ref b_best, .ref b_holds, .ref b_refused, .ref b_sums, .ref b_image, .ref b_isKept])), (a_gives, .inl (cI, 6, .inl f_gives)), (a_may, .inl (cI, 6, .inl f_may)), (a_ranks, .inl (cI, 5, .inl f_ranks)), (a_worths, .inl (cI, 30, .inl f_worths))]) [3, 0, 1, 2, 4] rfl (by decide) ?_
                refine ww_lsel (lv' := [(0, .ref a_t), (1, .int v1), (2, .int v2), (4, .int v4), (5, .int v5), (6, .int v6)]) [1, 2, 3, 4, 5, 6] rfl ?_
                exact cut_151 _ _ _ _ _ _ h
              · replace h := og_f c_118 h
                refine ww_aload_n B dX8_leave_121 1 rfl ?_
                refine ww_iload B dX8_leave_122 6 rfl ?_
                refine ww_iload B dX8_leave_124 5 rfl ?_
                refine ww_aload_n B dX8_leave_126 1 rfl ?_
                refine ww_iload B dX8_leave_127 6 rfl ?_
                obtain ⟨q_129, hq_129, h⟩ := og_b h
                refine ww_ci0 B (k' := 0) (n' := 0) rfl rfl [3, 0] [1, 2, 4] (wr := [(a_may, .inl (cI, 6, .inl f_may)), (a_ranks, .inl (cI, 5, .inl f_ranks)), (a_worths, .inl (cI, 30, .inl f_worths))]) (st := [.int v5, .int v6, .ref a_t]) rfl rfl (by decide) (rr_V B (c_X8_holderOf l D cI cZ a_t a_gives a_may b_voyage b_lucky a_worths a_ranks b_pad b_bears b_due b_borneBy b_gone b_sunk b_times b_whoBore b_best b_holds b_refused b_sums b_image b_isKept f_gives x_t_signs x_t_day x_t_reason x_t_asked v6 hq_129) gX8_leave_X8_holderOf rfl rfl rfl (N := 1) rfl (by decide +kernel) ⟨Nat.le_of_ble_eq_true rfl, Nat.le_of_ble_eq_true rfl⟩ rfl dX8_leave_129 0 rfl rfl (Nat.le_of_ble_eq_true rfl) ⟨Nat.le_of_ble_eq_true rfl, Nat.le_of_ble_eq_true rfl⟩) (ws' := [(a_may, .inl (cI, 6, .inl f_may)), (a_ranks, .inl (cI, 5, .inl f_ranks)), (a_worths, .inl (cI, 30, .inl f_worths)), (a_t, .inr (8, [.ref a_may, .ref b_voyage, .ref b_lucky, .ref a_worths, .ref a_ranks, .int x_t_signs, .ref b_pad, .int x_t_day, .int x_t_reason, .ref b_bears, .ref b_due, .ref b_borneBy, .ref b_gone, .ref b_sunk, .ref b_times, .int x_t_asked, .ref b_whoBore, .ref a_gives, .ref b_best, .ref b_holds, .ref b_refused, .ref b_sums, .ref b_image, .ref b_isKept])), (a_gives, .inl (cI, 6, .inl f_gives))]) rfl ?_
                obtain ⟨q_132, hq_132, h⟩ := og_b h
                refine ww_ci0 B (k' := 0) (n' := 0) rfl rfl [3, 1] [0, 2, 4] (wr := [(a_may, .inl (cI, 6, .inl f_may)), (a_worths, .inl (cI, 30, .inl f_worths)), (a_gives, .inl (cI, 6, .inl f_gives))]) (st := []) rfl rfl (by decide) (rr_V B (c_X8_likesHull l D cI cZ a_t a_ranks a_may b_voyage b_lucky a_worths b_pad b_bears b_due b_borneBy b_gone b_sunk b_times b_whoBore a_gives b_best b_holds b_refused b_sums b_image b_isKept f_ranks x_t_signs x_t_day x_t_reason x_t_asked v6 v5 q_129 hq_132) gX8_leave_X8_likesHull rfl rfl rfl (N := 3) rfl (by decide +kernel) ⟨Nat.le_of_ble_eq_true rfl, Nat.le_of_ble_eq_true rfl⟩ rfl dX8_leave_132 0 rfl rfl (Nat.le_of_ble_eq_true rfl) ⟨Nat.le_of_ble_eq_true rfl, Nat.le_of_ble_eq_true rfl⟩) (ws' := [(a_may, .inl (cI, 6, .inl f_may)), (a_worths, .inl (cI, 30, .inl f_worths)), (a_gives, .inl (cI, 6, .inl f_gives)), (a_t, .inr (8, [.ref a_may, .ref b_voyage, .ref b_lucky, .ref a_worths, .ref a_ranks, .int x_t_signs, .ref b_pad, .int x_t_day, .int x_t_reason, .ref b_bears, .ref b_due, .ref b_borneBy, .ref b_gone, .ref b_sunk, .ref b_times, .int x_t_asked, .ref b_whoBore, .ref a_gives, .ref b_best, .ref b_holds, .ref b_refused, .ref b_sums, .ref b_image, .ref b_isKept])), (a_ranks, .inl (cI, 5, .inl f_ranks))]) rfl ?_
                refine ww_if_eq B 151 dX8_leave_135 (by decide) (fun c_135 => ?_) (fun c_135 => ?_)
                · replace h := og_t c_135 h
                  refine ww_sub (ws' := [(a_t, .inr (8, [.ref a_may, .ref b_voyage, .ref b_lucky, .ref a_worths, .ref a_ranks, .int x_t_signs, .ref b_pad, .int x_t_day, .int x_t_reason, .ref b_bears, .ref b_due, .ref b_borneBy, .ref b_gone, .ref b_sunk, .ref b_times, .int x_t_asked, .ref b_whoBore, .ref a_gives, .ref b_best, .ref b_holds, .ref b_refused, .ref b_sums, .ref b_image, .ref b_isKept])), (a_gives, .inl (cI, 6, .inl f_gives)), (a_may, .inl (cI, 6, .inl f_may)), (a_ranks, .inl (cI, 5, .inl f_ranks)), (a_worths, .inl (cI, 30, .inl f_worths))]) [3, 2, 0, 4, 1] rfl (by decide) ?_
                  refine ww_lsel (lv' := [(0, .ref a_t), (1, .int v1), (2, .int v2), (4, .int v4), (5, .int v5), (6, .int v6)]) [1, 2, 3, 4, 5, 6] rfl ?_
                  exact cut_151 _ _ _ _ _ _ h
                · replace h := og_f c_135 h
                  refine ww_iload B dX8_leave_138 4 rfl ?_
                  refine ww_if_ne B 148 dX8_leave_140 (by decide) (fun c_140 => ?_) (fun c_140 => ?_)
                  · replace h := og_f c_140 h
                    refine ww_iload B dX8_leave_148 6 rfl ?_
                    exact ww_iret B hA hQ hr dX8_leave_150 f_gives [3, 2, 0, 4, 1] rfl (by decide) (og_p h)
                  · replace h := og_t c_140 h
                    refine ww_iload B dX8_leave_143 5 rfl ?_
                    refine ww_goto B 150 dX8_leave_145 (by decide) ?_
                    exact ww_iret B hA hQ hr dX8_leave_150 f_gives [3, 2, 0, 4, 1] rfl (by decide) (og_p h)
          have cut_95 : ∀ (v1 : Int32) (v2 : Int32) (v4 : Int32) (v5 : Int32) (v6 : Int32) (f_gives : (Nat → Int32)), m_X8_leave_95 (m_X8_leave_37 f_may f_ranks f_worths fuel_37) (m_X8_leave_47 (m_X8_leave_37 f_may f_ranks f_worths fuel_37) f_may f_ranks f_worths fuel_47) f_may f_ranks f_worths v1 v2 v4 v5 v6 f_gives = some res → WW p l e (headSpec wsX8_leave ({ frames := 3, cells := 0, slots := 0, locals := 78 } : Room)).room s m args below meth c D A 8 0 0 Q [(a_t, .inr (8, [.ref a_may, .ref b_voyage, .ref b_lucky, .ref a_worths, .ref a_ranks, .int x_t_signs, .ref b_pad, .int x_t_day, .int x_t_reason, .ref b_bears, .ref b_due, .ref b_borneBy, .ref b_gone, .ref b_sunk, .ref b_times, .int x_t_asked, .ref b_whoBore, .ref a_gives, .ref b_best, .ref b_holds, .ref b_refused, .ref b_sums, .ref b_image, .ref b_isKept])), (a_gives, .inl (cI, 6, .inl f_gives)), (a_may, .inl (cI, 6, .inl f_may)), (a_ranks, .inl (cI, 5, .inl f_ranks)), (a_worths, .inl (cI, 30, .inl f_worths))] [(0, .ref a_t), (1, .int v1), (2, .int v2), (4, .int v4), (5, .int v5), (6, .int v6)] [] 95 := by
            intro v1 v2 v4 v5 v6 f_gives h
            replace h : ((m_X8_leave_96 (m_X8_leave_37 f_may f_ranks f_worths fuel_37) (m_X8_leave_47 (m_X8_leave_37 f_may f_ranks f_worths fuel_37) f_may f_ranks f_worths fuel_47) f_may f_ranks f_worths v1 v2 v4 v5 v6 0 f_gives) : Option (Int32 × ((Nat → Int32)))) = some res := h
            refine ww_iconst B dX8_leave_95 (v := 0) (by decide) ?_
            exact cut_96 _ _ _ _ _ _ _ h
          intro v1 v2 v4 v5 v6 f_gives h
          replace h : (if 5 ≤ v6 then (ogl (v5 + 1) (fun (v5_157 : Int32) => ((m_X8_leave_37 f_may f_ranks f_worths fuel_37) v1 v2 v4 v5_157 f_gives))) else (ogb (m_X8_has v1 v5) (fun q_56 => if q_56 = 0 then ((m_X8_leave_95 (m_X8_leave_37 f_may f_ranks f_worths fuel_37) (m_X8_leave_47 (m_X8_leave_37 f_may f_ranks f_worths fuel_37) f_may f_ranks f_worths fuel_47) f_may f_ranks f_worths v1 v2 v4 v5 v6 f_gives)) else (ogi v5 6 (ogb (m_X8_has (v2 &&& (f_may (Int32.toNatClampNeg v5))) v6) (fun q_73 => if q_73 = 0 then ((m_X8_leave_95 (m_X8_leave_37 f_may f_ranks f_worths fuel_37) (m_X8_leave_47 (m_X8_leave_37 f_may f_ranks f_worths fuel_37) f_may f_ranks f_worths fuel_47) f_may f_ranks f_worths v1 v2 v4 v5 v6 f_gives)) else (ogi v5 6 (if (f_gives (Int32.toNatClampNeg v5)) = v6 then ((m_X8_leave_95 (m_X8_leave_37 f_may f_ranks f_worths fuel_37) (m_X8_leave_47 (m_X8_leave_37 f_may f_ranks f_worths fuel_37) f_may f_ranks f_worths fuel_47) f_may f_ranks f_worths v1 v2 v4 v5 v6 f_gives)) else ((m_X8_leave_96 (m_X8_leave_37 f_may f_ranks f_worths fuel_37) (m_X8_leave_47 (m_X8_leave_37 f_may f_ranks f_worths fuel_37) f_may f_ranks f_worths fuel_47) f_may f_ranks f_worths v1 v2 v4 v5 v6 1 f_gives))))))))) : Option (Int32 × ((Nat → Int32)))) = some res := h
          refine ww_iload B dX8_leave_47 5 rfl ?_
          refine ww_iconst B dX8_leave_49 (v := 5) (by decide) ?_
          refine ww_icmp_ge B 157 dX8_leave_50 (by decide) (fun c_50 => ?_) (fun c_50 => ?_)
          · replace h := og_t c_50 h
            obtain ⟨v5_157, ev5_157⟩ : ∃ y : Int32, y = (v5 + 1) := ⟨_, rfl⟩
            refine ww_iinc B dX8_leave_157 4 rfl (v := v5_157) (by rw [ev5_157]; rfl) (by decide) (lv' := [(5, .int v5_157), (0, .ref a_t), (1, .int v1), (2, .int v2), (4, .int v4), (6, .int v6)]) rfl ?_
            replace h := og_l ev5_157 h
            refine ww_goto B 37 dX8_leave_160 (by decide) ?_
            refine ww_lsel (lv' := [(0, .ref a_t), (1, .int v1), (2, .int v2), (4, .int v4), (5, .int v5_157)]) [1, 2, 3, 4, 0] rfl ?_
            exact ih_37 _ _ _ _ _ h
          · replace h := og_f c_50 h
            refine ww_iload_n B dX8_leave_53 1 rfl ?_
            refine ww_iload B dX8_leave_54 4 rfl ?_
            obtain ⟨q_56, hq_56, h⟩ := og_b h
            refine ww_ci0 B (k' := 0) (n' := 0) rfl rfl [] [0, 1, 2, 3, 4] (wr := [(a_t, .inr (8, [.ref a_may, .ref b_voyage, .ref b_lucky, .ref a_worths, .ref a_ranks, .int x_t_signs, .ref b_pad, .int x_t_day, .int x_t_reason, .ref b_bears, .ref b_due, .ref b_borneBy, .ref b_gone, .ref b_sunk, .ref b_times, .int x_t_asked, .ref b_whoBore, .ref a_gives, .ref b_best, .ref b_holds, .ref b_refused, .ref b_sums, .ref b_image, .ref b_isKept])), (a_gives, .inl (cI, 6, .inl f_gives)), (a_may, .inl (cI, 6, .inl f_may)), (a_ranks, .inl (cI, 5, .inl f_ranks)), (a_worths, .inl (cI, 30, .inl f_worths))]) (st := []) rfl rfl (by decide) (rr_S B (c_X8_has l D cI cZ v1 v5 hq_56) gX8_leave_X8_has rfl rfl rfl (N := 2) rfl (by decide +kernel) ⟨Nat.le_of_ble_eq_true rfl, Nat.le_of_ble_eq_true rfl⟩ rfl dX8_leave_56 (Nat.le_of_ble_eq_true rfl) ⟨Nat.le_of_ble_eq_true rfl, Nat.le_of_ble_eq_true rfl⟩) (ws' := [(a_t, .inr (8, [.ref a_may, .ref b_voyage, .ref b_lucky, .ref a_worths, .ref a_ranks, .int x_t_signs, .ref b_pad, .int x_t_day, .int x_t_reason, .ref b_bears, .ref b_due, .ref b_borneBy, .ref b_gone, .ref b_sunk, .ref b_times, .int x_t_asked, .ref b_whoBore, .ref a_gives, .ref b_best, .ref b_holds, .ref b_refused, .ref b_sums, .ref b_image, .ref b_isKept])), (a_gives, .inl (cI, 6, .inl f_gives)), (a_may, .inl (cI, 6, .inl f_may)), (a_ranks, .inl (cI, 5, .inl f_ranks)), (a_worths, .inl (cI, 30, .inl f_worths))]) rfl ?_
            refine ww_if_eq B 95 dX8_leave_59 (by decide) (fun c_59 => ?_) (fun c_59 => ?_)
            · replace h := og_t c_59 h
              exact cut_95 _ _ _ _ _ _ h
            · replace h := og_f c_59 h
              refine ww_iload_n B dX8_leave_62 2 rfl ?_
              refine ww_aload_n B dX8_leave_63 0 rfl ?_
              refine ww_get (ci := 8) (T := TX8) (C := RX8) (N := 24) B iX8 0 rfl rfl 0 (by decide) (by decide +kernel) rfl rfl dX8_leave_64 ?_
              refine ww_iload B dX8_leave_67 4 rfl ?_
              obtain ⟨i_69, h⟩ := og_i h
              refine ww_iald B 2 rfl i_69 dX8_leave_69 ?_
              refine ww_iand B dX8_leave_70 ?_
              refine ww_iload B dX8_leave_71 5 rfl ?_
              obtain ⟨q_73, hq_73, h⟩ := og_b h
              refine ww_ci0 B (k' := 0) (n' := 0) rfl rfl [] [0, 1, 2, 3, 4] (wr := [(a_t, .inr (8, [.ref a_may, .ref b_voyage, .ref b_lucky, .ref a_worths, .ref a_ranks, .int x_t_signs, .ref b_pad, .int x_t_day, .int x_t_reason, .ref b_bears, .ref b_due, .ref b_borneBy, .ref b_gone, .ref b_sunk, .ref b_times, .int x_t_asked, .ref b_whoBore, .ref a_gives, .ref b_best, .ref b_holds, .ref b_refused, .ref b_sums, .ref b_image, .ref b_isKept])), (a_gives, .inl (cI, 6, .inl f_gives)), (a_may, .inl (cI, 6, .inl f_may)), (a_ranks, .inl (cI, 5, .inl f_ranks)), (a_worths, .inl (cI, 30, .inl f_worths))]) (st := []) rfl rfl (by decide) (rr_S B (c_X8_has l D cI cZ (v2 &&& (f_may (Int32.toNatClampNeg v5))) v6 hq_73) gX8_leave_X8_has rfl rfl rfl (N := 2) rfl (by decide +kernel) ⟨Nat.le_of_ble_eq_true rfl, Nat.le_of_ble_eq_true rfl⟩ rfl dX8_leave_73 (Nat.le_of_ble_eq_true rfl) ⟨Nat.le_of_ble_eq_true rfl, Nat.le_of_ble_eq_true rfl⟩) (ws' := [(a_t, .inr (8, [.ref a_may, .ref b_voyage, .ref b_lucky, .ref a_worths, .ref a_ranks, .int x_t_signs, .ref b_pad, .int x_t_day, .int x_t_reason, .ref b_bears, .ref b_due, .ref b_borneBy, .ref b_gone, .ref b_sunk, .ref b_times, .int x_t_asked, .ref b_whoBore, .ref a_gives, .ref b_best, .ref b_holds, .ref b_refused, .ref b_sums, .ref b_image, .ref b_isKept])), (a_gives, .inl (cI, 6, .inl f_gives)), (a_may, .inl (cI, 6, .inl f_may)), (a_ranks, .inl (cI, 5, .inl f_ranks)), (a_worths, .inl (cI, 30, .inl f_worths))]) rfl ?_
              refine ww_if_eq B 95 dX8_leave_76 (by decide) (fun c_76 => ?_) (fun c_76 => ?_)
              · replace h := og_t c_76 h
                exact cut_95 _ _ _ _ _ _ h
              · replace h := og_f c_76 h
                refine ww_aload_n B dX8_leave_79 0 rfl ?_
                refine ww_get (ci := 8) (T := TX8) (C := RX8) (N := 24) B iX8 0 rfl rfl 17 (by decide) (by decide +kernel) rfl rfl dX8_leave_80 ?_
                refine ww_iload B dX8_leave_83 4 rfl ?_
                obtain ⟨i_85, h⟩ := og_i h
                refine ww_iald B 1 rfl i_85 dX8_leave_85 ?_
                refine ww_iload B dX8_leave_86 5 rfl ?_
                refine ww_icmp_eq B 95 dX8_leave_88 (by decide) (fun c_88 => ?_) (fun c_88 => ?_)
                · replace h := og_t c_88 h
                  exact cut_95 _ _ _ _ _ _ h
                · replace h := og_f c_88 h
                  refine ww_iconst B dX8_leave_91 (v := 1) (by decide) ?_
                  refine ww_goto B 96 dX8_leave_92 (by decide) ?_
                  exact cut_96 _ _ _ _ _ _ _ h
      intro v1 v2 v4 v5 f_gives h
      replace h : (if 6 ≤ v5 then (some ((-6), f_gives)) else ((m_X8_leave_47 (m_X8_leave_37 f_may f_ranks f_worths fuel_37) f_may f_ranks f_worths 1000000 v1 v2 v4 v5 0 f_gives)) : Option (Int32 × ((Nat → Int32)))) = some res := h
      refine ww_iload B dX8_leave_37 4 rfl ?_
      refine ww_bipush B dX8_leave_39 (v := 6) (by decide) ?_
      refine ww_icmp_ge B 163 dX8_leave_41 (by decide) (fun c_41 => ?_) (fun c_41 => ?_)
      · replace h := og_t c_41 h
        refine ww_bipush B dX8_leave_163 (v := (-6)) (by decide) ?_
        exact ww_iret B hA hQ hr dX8_leave_165 f_gives [0, 1, 2, 3, 4] rfl (by decide) (og_p h)
      · replace h := og_f c_41 h
        refine ww_iconst B dX8_leave_44 (v := 0) (by decide) ?_
        refine ww_istore B dX8_leave_45 (lv' := [(6, .int 0), (0, .ref a_t), (1, .int v1), (2, .int v2), (4, .int v4), (5, .int v5)]) (by decide) rfl ?_
        refine ww_lsel (lv' := [(0, .ref a_t), (1, .int v1), (2, .int v2), (4, .int v4), (5, .int v5), (6, .int 0)]) [1, 2, 3, 4, 5, 0] rfl ?_
        exact cut_47 _ _ _ _ _ _ _ h
  refine ww_iload_n B dX8_leave_0 1 rfl ?_
  refine ww_iload_n B dX8_leave_1 2 rfl ?_
  obtain ⟨q_2, hq_2, h⟩ := og_b h
  refine ww_ci0 B (k' := 0) (n' := 0) rfl rfl [] [0, 1, 2, 3, 4] (wr := [(a_t, .inr (8, [.ref a_may, .ref b_voyage, .ref b_lucky, .ref a_worths, .ref a_ranks, .int x_t_signs, .ref b_pad, .int x_t_day, .int x_t_reason, .ref b_bears, .ref b_due, .ref b_borneBy, .ref b_gone, .ref b_sunk, .ref b_times, .int x_t_asked, .ref b_whoBore, .ref a_gives, .ref b_best, .ref b_holds, .ref b_refused, .ref b_sums, .ref b_image, .ref b_isKept])), (a_gives, .inl (cI, 6, .inl f_gives)), (a_may, .inl (cI, 6, .inl f_may)), (a_ranks, .inl (cI, 5, .inl f_ranks)), (a_worths, .inl (cI, 30, .inl f_worths))]) (st := []) rfl rfl (by decide) (rr_S B (c_X8_areSets l D cI cZ v1 v2 hq_2) gX8_leave_X8_areSets rfl rfl rfl (N := 2) rfl (by decide +kernel) ⟨Nat.le_of_ble_eq_true rfl, Nat.le_of_ble_eq_true rfl⟩ rfl dX8_leave_2 (Nat.le_of_ble_eq_true rfl) ⟨Nat.le_of_ble_eq_true rfl, Nat.le_of_ble_eq_true rfl⟩) (ws' := [(a_t, .inr (8, [.ref a_may, .ref b_voyage, .ref b_lucky, .ref a_worths, .ref a_ranks, .int x_t_signs, .ref b_pad, .int x_t_day, .int x_t_reason, .ref b_bears, .ref b_due, .ref b_borneBy, .ref b_gone, .ref b_sunk, .ref b_times, .int x_t_asked, .ref b_whoBore, .ref a_gives, .ref b_best, .ref b_holds, .ref b_refused, .ref b_sums, .ref b_image, .ref b_isKept])), (a_gives, .inl (cI, 6, .inl f_gives)), (a_may, .inl (cI, 6, .inl f_may)), (a_ranks, .inl (cI, 5, .inl f_ranks)), (a_worths, .inl (cI, 30, .inl f_worths))]) rfl ?_
  refine ww_if_eq B 18 dX8_leave_5 (by decide) (fun c_5 => ?_) (fun c_5 => ?_)
  · replace h := og_t c_5 h
    refine ww_bipush B dX8_leave_18 (v := (-2)) (by decide) ?_
    exact ww_iret B hA hQ hr dX8_leave_20 f_gives [0, 1, 2, 3, 4] rfl (by decide) (og_p h)
  · replace h := og_f c_5 h
    refine ww_iload B dX8_leave_8 4 rfl ?_
    refine ww_iconst B dX8_leave_10 (v := 0) (by decide) ?_
    refine ww_iconst B dX8_leave_11 (v := 1) (by decide) ?_
    obtain ⟨q_12, hq_12, h⟩ := og_b h
    refine ww_ci0 B (k' := 0) (n' := 0) rfl rfl [] [0, 1, 2, 3, 4] (wr := [(a_t, .inr (8, [.ref a_may, .ref b_voyage, .ref b_lucky, .ref a_worths, .ref a_ranks, .int x_t_signs, .ref b_pad, .int x_t_day, .int x_t_reason, .ref b_bears, .ref b_due, .ref b_borneBy, .ref b_gone, .ref b_sunk, .ref b_times, .int x_t_asked, .ref b_whoBore, .ref a_gives, .ref b_best, .ref b_holds, .ref b_refused, .ref b_sums, .ref b_image, .ref b_isKept])), (a_gives, .inl (cI, 6, .inl f_gives)), (a_may, .inl (cI, 6, .inl f_may)), (a_ranks, .inl (cI, 5, .inl f_ranks)), (a_worths, .inl (cI, 30, .inl f_worths))]) (st := []) rfl rfl (by decide) (rr_S B (c_X8_in l D cI cZ v4 0 1 hq_12) gX8_leave_X8_in rfl rfl rfl (N := 3) rfl (by decide +kernel) ⟨Nat.le_of_ble_eq_true rfl, Nat.le_of_ble_eq_true rfl⟩ rfl dX8_leave_12 (Nat.le_of_ble_eq_true rfl) ⟨Nat.le_of_ble_eq_true rfl, Nat.le_of_ble_eq_true rfl⟩) (ws' := [(a_t, .inr (8, [.ref a_may, .ref b_voyage, .ref b_lucky, .ref a_worths, .ref a_ranks, .int x_t_signs, .ref b_pad, .int x_t_day, .int x_t_reason, .ref b_bears, .ref b_due, .ref b_borneBy, .ref b_gone, .ref b_sunk, .ref b_times, .int x_t_asked, .ref b_whoBore, .ref a_gives, .ref b_best, .ref b_holds, .ref b_refused, .ref b_sums, .ref b_image, .ref b_isKept])), (a_gives, .inl (cI, 6, .inl f_gives)), (a_may, .inl (cI, 6, .inl f_may)), (a_ranks, .inl (cI, 5, .inl f_ranks)), (a_worths, .inl (cI, 30, .inl f_worths))]) rfl ?_
    refine ww_if_ne B 21 dX8_leave_15 (by decide) (fun c_15 => ?_) (fun c_15 => ?_)
    · replace h := og_f c_15 h
      refine ww_aload_n B dX8_leave_21 0 rfl ?_
      refine ww_iload_n B dX8_leave_22 3 rfl ?_
      refine ww_iload_n B dX8_leave_23 1 rfl ?_
      refine ww_iload_n B dX8_leave_24 2 rfl ?_
      obtain ⟨q_25, hq_25, h⟩ := og_b h
      refine ww_ciM B (k' := 0) (n' := 0) rfl rfl [0, 1, 2] [3, 4] (wr := [(a_ranks, .inl (cI, 5, .inl f_ranks)), (a_worths, .inl (cI, 30, .inl f_worths))]) (st := []) rfl rfl (by decide) (rr_V B (c_X8_layNumber l D cI cZ a_t a_gives a_may b_voyage b_lucky a_worths a_ranks b_pad b_bears b_due b_borneBy b_gone b_sunk b_times b_whoBore b_best b_holds b_refused b_sums b_image b_isKept f_gives f_may x_t_signs x_t_day x_t_reason x_t_asked v3 v1 v2 hq_25) gX8_leave_X8_layNumber rfl rfl rfl (N := 3) rfl (by decide +kernel) ⟨Nat.le_of_ble_eq_true rfl, Nat.le_of_ble_eq_true rfl⟩ rfl dX8_leave_25 0 rfl rfl (Nat.le_of_ble_eq_true rfl) ⟨Nat.le_of_ble_eq_true rfl, Nat.le_of_ble_eq_true rfl⟩) (ws' := [(a_ranks, .inl (cI, 5, .inl f_ranks)), (a_worths, .inl (cI, 30, .inl f_worths)), (a_t, .inr (8, [.ref a_may, .ref b_voyage, .ref b_lucky, .ref a_worths, .ref a_ranks, .int x_t_signs, .ref b_pad, .int x_t_day, .int x_t_reason, .ref b_bears, .ref b_due, .ref b_borneBy, .ref b_gone, .ref b_sunk, .ref b_times, .int x_t_asked, .ref b_whoBore, .ref a_gives, .ref b_best, .ref b_holds, .ref b_refused, .ref b_sums, .ref b_image, .ref b_isKept])), (a_gives, .inl (cI, 6, .inl q_25.2)), (a_may, .inl (cI, 6, .inl f_may))]) rfl ?_
      refine ww_if_ne B 34 dX8_leave_28 (by decide) (fun c_28 => ?_) (fun c_28 => ?_)
      · replace h := og_f c_28 h
        refine ww_iconst B dX8_leave_34 (v := 0) (by decide) ?_
        refine ww_istore B dX8_leave_35 (lv' := [(5, .int 0), (0, .ref a_t), (1, .int v1), (2, .int v2), (3, .int v3), (4, .int v4)]) (by decide) rfl ?_
        refine ww_sub (ws' := [(a_t, .inr (8, [.ref a_may, .ref b_voyage, .ref b_lucky, .ref a_worths, .ref a_ranks, .int x_t_signs, .ref b_pad, .int x_t_day, .int x_t_reason, .ref b_bears, .ref b_due, .ref b_borneBy, .ref b_gone, .ref b_sunk, .ref b_times, .int x_t_asked, .ref b_whoBore, .ref a_gives, .ref b_best, .ref b_holds, .ref b_refused, .ref b_sums, .ref b_image, .ref b_isKept])), (a_gives, .inl (cI, 6, .inl q_25.2)), (a_may, .inl (cI, 6, .inl f_may)), (a_ranks, .inl (cI, 5, .inl f_ranks)), (a_worths, .inl (cI, 30, .inl f_worths))]) [2, 3, 4, 0, 1] rfl (by decide) ?_
        refine ww_lsel (lv' := [(0, .ref a_t), (1, .int v1), (2, .int v2), (4, .int v4), (5, .int 0)]) [1, 2, 3, 5, 0] rfl ?_
        exact cut_37 _ _ _ _ _ _ h
      · replace h := og_t c_28 h
        refine ww_bipush B dX8_leave_31 (v := (-3)) (by decide) ?_
        exact ww_iret B hA hQ hr dX8_leave_33 q_25.2 [2, 3, 4, 0, 1] rfl (by decide) (og_p h)
    · replace h := og_t c_15 h
      refine ww_bipush B dX8_leave_18 (v := (-2)) (by decide) ?_
      exact ww_iret B hA hQ hr dX8_leave_20 f_gives [0, 1, 2, 3, 4] rfl (by decide) (og_p h)
noncomputable def m_X8_letGo_54 (k21 : Int32 → Int32 → Int32 → Int32 → (Nat → Int32) → (Nat → Int32) → (Nat → Int32) → Option (Int32 × ((Nat → Int32) × (Nat → Int32) × (Nat → Int32)))) (f_may : (Nat → Int32)) (f_voyage : (Nat → Int32)) (v1 : Int32) (v2 : Int32) (v3 : Int32) (v4 : Int32) (f_best : (Nat → Int32)) (f_gives : (Nat → Int32)) (f_sums : (Nat → Int32)) : Option (Int32 × ((Nat → Int32) × (Nat → Int32) × (Nat → Int32))) := ogl (v4 + 1) (fun (v4_54 : Int32) => (k21 v1 v2 v3 v4_54 f_best f_gives f_sums))
noncomputable def m_X8_letGo_21b (k21 : Int32 → Int32 → Int32 → Int32 → (Nat → Int32) → (Nat → Int32) → (Nat → Int32) → Option (Int32 × ((Nat → Int32) × (Nat → Int32) × (Nat → Int32)))) (f_may : (Nat → Int32)) (f_voyage : (Nat → Int32)) (v1 : Int32) (v2 : Int32) (v3 : Int32) (v4 : Int32) (f_best : (Nat → Int32)) (f_gives : (Nat → Int32)) (f_sums : (Nat → Int32)) : Option (Int32 × ((Nat → Int32) × (Nat → Int32) × (Nat → Int32))) := if 5 ≤ v4 then (if 0 ≤ v2 then (if v1 = 0 then (some (v2, (f_best, f_gives, f_sums))) else (some (v3, (f_best, f_gives, f_sums)))) else (some ((-6), (f_best, f_gives, f_sums)))) else (ogb (m_X8_daysBy f_may f_voyage f_best f_gives f_sums (31 &&& ((((1 : Int32) <<< ((v4 : Int32) &&& 31)) : Int32) ^^^ ((-1) : Int32)))) (fun q_37 => if v3 ≤ q_37.1 then ((m_X8_letGo_54 k21 f_may f_voyage v1 v2 v3 v4 q_37.2.1 q_37.2.2.1 q_37.2.2.2)) else ((m_X8_letGo_54 k21 f_may f_voyage v1 v4 q_37.1 v4 q_37.2.1 q_37.2.2.1 q_37.2.2.2))))
noncomputable def m_X8_letGo_21 (f_may : (Nat → Int32)) (f_voyage : (Nat → Int32)) (fuel : Nat) : Int32 → Int32 → Int32 → Int32 → (Nat → Int32) → (Nat → Int32) → (Nat → Int32) → Option (Int32 × ((Nat → Int32) × (Nat → Int32) × (Nat → Int32))) := Nat.rec (fun _ _ _ _ _ _ _ => none) (fun _ k21 => m_X8_letGo_21b k21 f_may f_voyage) fuel
noncomputable def m_X8_letGo (f_may : (Nat → Int32)) (f_voyage : (Nat → Int32)) (f_best : (Nat → Int32)) (f_gives : (Nat → Int32)) (f_sums : (Nat → Int32)) (v1 : Int32) : Option (Int32 × ((Nat → Int32) × (Nat → Int32) × (Nat → Int32))) := ogb (m_X8_in v1 0 1) (fun q_3 => if q_3 = 0 then (some ((-2), (f_best, f_gives, f_sums))) else ((m_X8_letGo_21 f_may f_voyage 1000000 v1 (-6) 1000000 0 f_best f_gives f_sums)))
set_option maxHeartbeats 4000000 in
set_option maxRecDepth 100000 in
theorem c_X8_letGo (l : Launch) (D : va_G) (cI cZ : ClassId) (a_t a_best a_gives a_may a_sums a_voyage b_lucky b_worths b_ranks b_pad b_bears b_due b_borneBy b_gone b_sunk b_times b_whoBore b_holds b_refused b_image b_isKept : Nat) (f_best : (Nat → Int32)) (f_gives : (Nat → Int32)) (f_may : (Nat → Int32)) (f_sums : (Nat → Int32)) (f_voyage : (Nat → Int32)) (x_t_signs : Int32) (x_t_day : Int32) (x_t_reason : Int32) (x_t_asked : Int32) (v1 : Int32) {res : (Int32 × ((Nat → Int32) × (Nat → Int32) × (Nat → Int32)))} (h : m_X8_letGo f_may f_voyage f_best f_gives f_sums v1 = some res) : CT l yX8_letGo wsX8_letGo ({ frames := 2, cells := 0, slots := 0, locals := 49 } : Room) D cI cZ [.ref a_t, .int v1] [(a_t, .inr (8, [.ref a_may, .ref a_voyage, .ref b_lucky, .ref b_worths, .ref b_ranks, .int x_t_signs, .ref b_pad, .int x_t_day, .int x_t_reason, .ref b_bears, .ref b_due, .ref b_borneBy, .ref b_gone, .ref b_sunk, .ref b_times, .int x_t_asked, .ref b_whoBore, .ref a_gives, .ref a_best, .ref b_holds, .ref b_refused, .ref a_sums, .ref b_image, .ref b_isKept])), (a_best, .inl (cI, 6, .inl f_best)), (a_gives, .inl (cI, 6, .inl f_gives)), (a_may, .inl (cI, 6, .inl f_may)), (a_sums, .inl (cI, 5, .inl f_sums)), (a_voyage, .inl (cI, 6, .inl f_voyage))] (QI D [(a_t, .inr (8, [.ref a_may, .ref a_voyage, .ref b_lucky, .ref b_worths, .ref b_ranks, .int x_t_signs, .ref b_pad, .int x_t_day, .int x_t_reason, .ref b_bears, .ref b_due, .ref b_borneBy, .ref b_gone, .ref b_sunk, .ref b_times, .int x_t_asked, .ref b_whoBore, .ref a_gives, .ref a_best, .ref b_holds, .ref b_refused, .ref a_sums, .ref b_image, .ref b_isKept])), (a_best, .inl (cI, 6, .inl f_best)), (a_gives, .inl (cI, 6, .inl f_gives)), (a_may, .inl (cI, 6, .inl f_may)), (a_sums, .inl (cI, 5, .inl f_sums)), (a_voyage, .inl (cI, 6, .inl f_voyage))] (fun (r : Int32) (u : (Nat → Int32) × (Nat → Int32) × (Nat → Int32)) => r = res.1 ∧ u = res.2) (fun (u : (Nat → Int32) × (Nat → Int32) × (Nat → Int32)) => [(a_t, .inr (8, [.ref a_may, .ref a_voyage, .ref b_lucky, .ref b_worths, .ref b_ranks, .int x_t_signs, .ref b_pad, .int x_t_day, .int x_t_reason, .ref b_bears, .ref b_due, .ref b_borneBy, .ref b_gone, .ref b_sunk, .ref b_times, .int x_t_asked, .ref b_whoBore, .ref a_gives, .ref a_best, .ref b_holds, .ref b_refused, .ref a_sums, .ref b_image, .ref b_isKept])), (a_best, .inl (cI, 6, .inl u.1)), (a_gives, .inl (cI, 6, .inl u.2.1)), (a_may, .inl (cI, 6, .inl f_may)), (a_sums, .inl (cI, 5, .inl u.2.2)), (a_voyage, .inl (cI, 6, .inl f_voyage))])) 0 0 := by
  have h : (ogb (m_X8_in v1 0 1) (fun q_3 => if q_3 = 0 then (some ((-2), (f_best, f_gives, f_sums))) else ((m_X8_letGo_21 f_may f_voyage 1000000 v1 (-6) 1000000 0 f_best f_gives f_sums))) : Option (Int32 × ((Nat → Int32) × (Nat → Int32) × (Nat → Int32)))) = some res := h
  refine ct_entry (cc := cX8_letGo) (nl := 6) (ret := (some .int)) (own := RX8) (lv0 := [(0, .ref a_t), (1, .int v1)]) (by decide) rfl rfl (Nat.le_of_ble_eq_true rfl) rfl ?_
  intro p e s m args below meth c A Q hA hQ hr hnm B
  have cut_21 : ∀ (fuel : Nat) (v1 : Int32) (v2 : Int32) (v3 : Int32) (v4 : Int32) (f_best : (Nat → Int32)) (f_gives : (Nat → Int32)) (f_sums : (Nat → Int32)), m_X8_letGo_21 f_may f_voyage fuel v1 v2 v3 v4 f_best f_gives f_sums = some res → WW p l e (headSpec wsX8_letGo ({ frames := 2, cells := 0, slots := 0, locals := 49 } : Room)).room s m args below meth c D A 6 0 0 Q [(a_t, .inr (8, [.ref a_may, .ref a_voyage, .ref b_lucky, .ref b_worths, .ref b_ranks, .int x_t_signs, .ref b_pad, .int x_t_day, .int x_t_reason, .ref b_bears, .ref b_due, .ref b_borneBy, .ref b_gone, .ref b_sunk, .ref b_times, .int x_t_asked, .ref b_whoBore, .ref a_gives, .ref a_best, .ref b_holds, .ref b_refused, .ref a_sums, .ref b_image, .ref b_isKept])), (a_best, .inl (cI, 6, .inl f_best)), (a_gives, .inl (cI, 6, .inl f_gives)), (a_may, .inl (cI, 6, .inl f_may)), (a_sums, .inl (cI, 5, .inl f_sums)), (a_voyage, .inl (cI, 6, .inl f_voyage))] [(0, .ref a_t), (1, .int v1), (2, .int v2), (3, .int v3), (4, .int v4)] [] 21 := by
    intro fuel_21
    induction fuel_21 with
    | zero => intro v1 v2 v3 v4 f_best f_gives f_sums h; exact og_0 h
    | succ fuel_21 ih_21 =>
      have cut_54 : ∀ (v1 : Int32) (v2 : Int32) (v3 : Int32) (v4 : Int32) (f_best : (Nat → Int32)) (f_gives : (Nat → Int32)) (f_sums : (Nat → Int32)), m_X8_letGo_54 (m_X8_letGo_21 f_may f_voyage fuel_21) f_may f_voyage v1 v2 v3 v4 f_best f_gives f_sums = some res → WW p l e (headSpec wsX8_letGo ({ frames := 2, cells := 0, slots := 0, locals := 49 } : Room)).room s m args below meth c D A 6 0 0 Q [(a_t, .inr (8, [.ref a_may, .ref a_voyage, .ref b_lucky, .ref b_worths, .ref b_ranks, .int x_t_signs, .ref b_pad, .int x_t_day, .int x_t_reason, .ref b_bears, .ref b_due, .ref b_borneBy, .ref b_gone, .ref b_sunk, .ref b_times, .int x_t_asked, .ref b_whoBore, .ref a_gives, .ref a_best, .ref b_holds, .ref b_refused, .ref a_sums, .ref b_image, .ref b_isKept])), (a_best, .inl (cI, 6, .inl f_best)), (a_gives, .inl (cI, 6, .inl f_gives)), (a_may, .inl (cI, 6, .inl f_may)), (a_sums, .inl (cI, 5, .inl f_sums)), (a_voyage, .inl (cI, 6, .inl f_voyage))] [(0, .ref a_t), (1, .int v1), (2, .int v2), (3, .int v3), (4, .int v4)] [] 54 := by
        intro v1 v2 v3 v4 f_best f_gives f_sums h
        replace h : (ogl (v4 + 1) (fun (v4_54 : Int32) => ((m_X8_letGo_21 f_may f_voyage fuel_21) v1 v2 v3 v4_54 f_best f_gives f_sums)) : Option (Int32 × ((Nat → Int32) × (Nat → Int32) × (Nat → Int32)))) = some res := h
        obtain ⟨v4_54, ev4_54⟩ : ∃ y : Int32, y = (v4 + 1) := ⟨_, rfl⟩
        refine ww_iinc B dX8_letGo_54 4 rfl (v := v4_54) (by rw [ev4_54]; rfl) (by decide) (lv' := [(4, .int v4_54), (0, .ref a_t), (1, .int v1), (2, .int v2), (3, .int v3)]) rfl ?_
        replace h := og_l ev4_54 h
        refine ww_goto B 21 dX8_letGo_57 (by decide) ?_
        refine ww_lsel (lv' := [(0, .ref a_t), (1, .int v1), (2, .int v2), (3, .int v3), (4, .int v4_54)]) [1, 2, 3, 4, 0] rfl ?_
        exact ih_21 _ _ _ _ _ _ _ h
      intro v1 v2 v3 v4 f_best f_gives f_sums h
      replace h : (if 5 ≤ v4 then (if 0 ≤ v2 then (if v1 = 0 then (some (v2, (f_best, f_gives, f_sums))) else (some (v3, (f_best, f_gives, f_sums)))) else (some ((-6), (f_best, f_gives, f_sums)))) else (ogb (m_X8_daysBy f_may f_voyage f_best f_gives f_sums (31 &&& ((((1 : Int32) <<< ((v4 : Int32) &&& 31)) : Int32) ^^^ ((-1) : Int32)))) (fun q_37 => if v3 ≤ q_37.1 then ((m_X8_letGo_54 (m_X8_letGo_21 f_may f_voyage fuel_21) f_may f_voyage v1 v2 v3 v4 q_37.2.1 q_37.2.2.1 q_37.2.2.2)) else ((m_X8_letGo_54 (m_X8_letGo_21 f_may f_voyage fuel_21) f_may f_voyage v1 v4 q_37.1 v4 q_37.2.1 q_37.2.2.1 q_37.2.2.2)))) : Option (Int32 × ((Nat → Int32) × (Nat → Int32) × (Nat → Int32)))) = some res := h
      refine ww_iload B dX8_letGo_21 4 rfl ?_
      refine ww_iconst B dX8_letGo_23 (v := 5) (by decide) ?_
      refine ww_icmp_ge B 60 dX8_letGo_24 (by decide) (fun c_24 => ?_) (fun c_24 => ?_)
      · replace h := og_t c_24 h
        refine ww_iload_n B dX8_letGo_60 2 rfl ?_
        refine ww_if_ge B 69 dX8_letGo_61 (by decide) (fun c_61 => ?_) (fun c_61 => ?_)
        · replace h := og_t c_61 h
          refine ww_iload_n B dX8_letGo_69 1 rfl ?_
          refine ww_if_ne B 77 dX8_letGo_70 (by decide) (fun c_70 => ?_) (fun c_70 => ?_)
          · replace h := og_f c_70 h
            refine ww_iload_n B dX8_letGo_77 3 rfl ?_
            exact ww_iret B hA hQ hr dX8_letGo_78 (f_best, f_gives, f_sums) [0, 1, 2, 3, 4, 5] rfl (by decide) (og_p h)
          · replace h := og_t c_70 h
            refine ww_iload_n B dX8_letGo_73 2 rfl ?_
            refine ww_goto B 78 dX8_letGo_74 (by decide) ?_
            exact ww_iret B hA hQ hr dX8_letGo_78 (f_best, f_gives, f_sums) [0, 1, 2, 3, 4, 5] rfl (by decide) (og_p h)
        · replace h := og_f c_61 h
          refine ww_bipush B dX8_letGo_64 (v := (-6)) (by decide) ?_
          refine ww_goto B 78 dX8_letGo_66 (by decide) ?_
          exact ww_iret B hA hQ hr dX8_letGo_78 (f_best, f_gives, f_sums) [0, 1, 2, 3, 4, 5] rfl (by decide) (og_p h)
      · replace h := og_f c_24 h
        refine ww_aload_n B dX8_letGo_27 0 rfl ?_
        refine ww_bipush B dX8_letGo_28 (v := 31) (by decide) ?_
        refine ww_iconst B dX8_letGo_30 (v := 1) (by decide) ?_
        refine ww_iload B dX8_letGo_31 4 rfl ?_
        refine ww_ishl B dX8_letGo_33 ?_
        refine ww_iconst B dX8_letGo_34 (v := (-1)) (by decide) ?_
        refine ww_ixor B dX8_letGo_35 ?_
        refine ww_iand B dX8_letGo_36 ?_
        obtain ⟨q_37, hq_37, h⟩ := og_b h
        refine ww_ciM B (k' := 0) (n' := 0) rfl rfl [0, 1, 2, 3, 4, 5] [] (wr := []) (st := []) rfl rfl (by decide) (rr_V B (c_X8_daysBy l D cI cZ a_t a_best a_gives a_may a_sums a_voyage b_lucky b_worths b_ranks b_pad b_bears b_due b_borneBy b_gone b_sunk b_times b_whoBore b_holds b_refused b_image b_isKept f_best f_gives f_may f_sums f_voyage x_t_signs x_t_day x_t_reason x_t_asked (31 &&& ((((1 : Int32) <<< ((v4 : Int32) &&& 31)) : Int32) ^^^ ((-1) : Int32))) hq_37) gX8_letGo_X8_daysBy rfl rfl rfl (N := 1) rfl (by decide +kernel) ⟨Nat.le_of_ble_eq_true rfl, Nat.le_of_ble_eq_true rfl⟩ rfl dX8_letGo_37 0 rfl rfl (Nat.le_of_ble_eq_true rfl) ⟨Nat.le_of_ble_eq_true rfl, Nat.le_of_ble_eq_true rfl⟩) (ws' := [(a_t, .inr (8, [.ref a_may, .ref a_voyage, .ref b_lucky, .ref b_worths, .ref b_ranks, .int x_t_signs, .ref b_pad, .int x_t_day, .int x_t_reason, .ref b_bears, .ref b_due, .ref b_borneBy, .ref b_gone, .ref b_sunk, .ref b_times, .int x_t_asked, .ref b_whoBore, .ref a_gives, .ref a_best, .ref b_holds, .ref b_refused, .ref a_sums, .ref b_image, .ref b_isKept])), (a_best, .inl (cI, 6, .inl q_37.2.1)), (a_gives, .inl (cI, 6, .inl q_37.2.2.1)), (a_may, .inl (cI, 6, .inl f_may)), (a_sums, .inl (cI, 5, .inl q_37.2.2.2)), (a_voyage, .inl (cI, 6, .inl f_voyage))]) rfl ?_
        refine ww_istore B dX8_letGo_40 (lv' := [(5, .int q_37.1), (0, .ref a_t), (1, .int v1), (2, .int v2), (3, .int v3), (4, .int v4)]) (by decide) rfl ?_
        refine ww_iload B dX8_letGo_42 0 rfl ?_
        refine ww_iload_n B dX8_letGo_44 4 rfl ?_
        refine ww_icmp_ge B 54 dX8_letGo_45 (by decide) (fun c_45 => ?_) (fun c_45 => ?_)
        · replace h := og_t c_45 h
          refine ww_lsel (lv' := [(0, .ref a_t), (1, .int v1), (2, .int v2), (3, .int v3), (4, .int v4)]) [1, 2, 3, 4, 5] rfl ?_
          exact cut_54 _ _ _ _ _ _ _ h
        · replace h := og_f c_45 h
          refine ww_iload B dX8_letGo_48 0 rfl ?_
          refine ww_istore_n B dX8_letGo_50 (lv' := [(3, .int q_37.1), (5, .int q_37.1), (0, .ref a_t), (1, .int v1), (2, .int v2), (4, .int v4)]) (by decide) rfl ?_
          refine ww_iload B dX8_letGo_51 5 rfl ?_
          refine ww_istore_n B dX8_letGo_53 (lv' := [(2, .int v4), (3, .int q_37.1), (5, .int q_37.1), (0, .ref a_t), (1, .int v1), (4, .int v4)]) (by decide) rfl ?_
          refine ww_lsel (lv' := [(0, .ref a_t), (1, .int v1), (2, .int v4), (3, .int q_37.1), (4, .int v4)]) [3, 4, 0, 1, 5] rfl ?_
          exact cut_54 _ _ _ _ _ _ _ h
  refine ww_iload_n B dX8_letGo_0 1 rfl ?_
  refine ww_iconst B dX8_letGo_1 (v := 0) (by decide) ?_
  refine ww_iconst B dX8_letGo_2 (v := 1) (by decide) ?_
  obtain ⟨q_3, hq_3, h⟩ := og_b h
  refine ww_ci0 B (k' := 0) (n' := 0) rfl rfl [] [0, 1, 2, 3, 4, 5] (wr := [(a_t, .inr (8, [.ref a_may, .ref a_voyage, .ref b_lucky, .ref b_worths, .ref b_ranks, .int x_t_signs, .ref b_pad, .int x_t_day, .int x_t_reason, .ref b_bears, .ref b_due, .ref b_borneBy, .ref b_gone, .ref b_sunk, .ref b_times, .int x_t_asked, .ref b_whoBore, .ref a_gives, .ref a_best, .ref b_holds, .ref b_refused, .ref a_sums, .ref b_image, .ref b_isKept])), (a_best, .inl (cI, 6, .inl f_best)), (a_gives, .inl (cI, 6, .inl f_gives)), (a_may, .inl (cI, 6, .inl f_may)), (a_sums, .inl (cI, 5, .inl f_sums)), (a_voyage, .inl (cI, 6, .inl f_voyage))]) (st := []) rfl rfl (by decide) (rr_S B (c_X8_in l D cI cZ v1 0 1 hq_3) gX8_letGo_X8_in rfl rfl rfl (N := 3) rfl (by decide +kernel) ⟨Nat.le_of_ble_eq_true rfl, Nat.le_of_ble_eq_true rfl⟩ rfl dX8_letGo_3 (Nat.le_of_ble_eq_true rfl) ⟨Nat.le_of_ble_eq_true rfl, Nat.le_of_ble_eq_true rfl⟩) (ws' := [(a_t, .inr (8, [.ref a_may, .ref a_voyage, .ref b_lucky, .ref b_worths, .ref b_ranks, .int x_t_signs, .ref b_pad, .int x_t_day, .int x_t_reason, .ref b_bears, .ref b_due, .ref b_borneBy, .ref b_gone, .ref b_sunk, .ref b_times, .int x_t_asked, .ref b_whoBore, .ref a_gives, .ref a_best, .ref b_holds, .ref b_refused, .ref a_sums, .ref b_image, .ref b_isKept])), (a_best, .inl (cI, 6, .inl f_best)), (a_gives, .inl (cI, 6, .inl f_gives)), (a_may, .inl (cI, 6, .inl f_may)), (a_sums, .inl (cI, 5, .inl f_sums)), (a_voyage, .inl (cI, 6, .inl f_voyage))]) rfl ?_
  refine ww_if_ne B 12 dX8_letGo_6 (by decide) (fun c_6 => ?_) (fun c_6 => ?_)
  · replace h := og_f c_6 h
    refine ww_bipush B dX8_letGo_12 (v := (-6)) (by decide) ?_
    refine ww_istore_n B dX8_letGo_14 (lv' := [(2, .int (-6)), (0, .ref a_t), (1, .int v1)]) (by decide) rfl ?_
    refine ww_ldc B (v := 1000000) (by decide +kernel) dX8_letGo_15 ?_
    refine ww_istore_n B dX8_letGo_17 (lv' := [(3, .int 1000000), (2, .int (-6)), (0, .ref a_t), (1, .int v1)]) (by decide) rfl ?_
    refine ww_iconst B dX8_letGo_18 (v := 0) (by decide) ?_
    refine ww_istore B dX8_letGo_19 (lv' := [(4, .int 0), (3, .int 1000000), (2, .int (-6)), (0, .ref a_t), (1, .int v1)]) (by decide) rfl ?_
    refine ww_lsel (lv' := [(0, .ref a_t), (1, .int v1), (2, .int (-6)), (3, .int 1000000), (4, .int 0)]) [3, 4, 2, 1, 0] rfl ?_
    exact cut_21 _ _ _ _ _ _ _ _ h
  · replace h := og_t c_6 h
    refine ww_bipush B dX8_letGo_9 (v := (-2)) (by decide) ?_
    exact ww_iret B hA hQ hr dX8_letGo_11 (f_best, f_gives, f_sums) [0, 1, 2, 3, 4, 5] rfl (by decide) (og_p h)
noncomputable def m_X8_log_45 (f_may : (Nat → Int32)) (f_pad : (Nat → Int32)) (x_t_signs : Int32) (x_t_asked : Int32) (v1 : Int32) (v2 : Int32) (s0 : Int32) (f_bears : (Nat → Int32)) (f_borneBy : (Nat → Int32)) (f_due : (Nat → Int32)) (f_gone : (Nat → Int32)) (f_sunk : (Nat → Int32)) (f_times : (Nat → Int32)) (f_whoBore : (Nat → Int32)) (x_t_day : Int32) (x_t_reason : Int32) : Option (Int32 × ((Nat → Int32) × (Nat → Int32) × (Nat → Int32) × (Nat → Int32) × (Nat → Int32) × (Nat → Int32) × (Nat → Int32) × Int32 × Int32)) := if s0 = 0 then (some ((-2), (f_bears, f_borneBy, f_due, f_gone, f_sunk, f_times, f_whoBore, x_t_day, x_t_reason))) else (ogb (m_X8_faultOf f_pad x_t_signs) (fun q_54 => if q_54 < 0 then (ogb (m_X8_opens f_pad x_t_signs) (fun q_64 => if 0 < q_64 then (some ((-3), (f_bears, f_borneBy, f_due, f_gone, f_sunk, f_times, f_whoBore, x_t_day, x_t_reason))) else (ogb (m_X8_goLog f_may f_pad x_t_signs x_t_asked f_bears f_borneBy f_due f_gone f_sunk f_times f_whoBore x_t_day x_t_reason 0) (fun q_72 => if q_72.1 < 0 then (if (v1 / 10) = 0 then (some (q_72.2.2.2.2.2.2.2.2.1, (q_72.2.1, q_72.2.2.1, q_72.2.2.2.1, q_72.2.2.2.2.1, q_72.2.2.2.2.2.1, q_72.2.2.2.2.2.2.1, q_72.2.2.2.2.2.2.2.1, q_72.2.2.2.2.2.2.2.2.1, q_72.2.2.2.2.2.2.2.2.2))) else (if (v1 / 10) = 1 then (ogi v2 6 (if (q_72.2.2.2.2.2.1 (Int32.toNatClampNeg v2)) = 0 then (ogi v2 6 (some ((q_72.2.1 (Int32.toNatClampNeg v2)), (q_72.2.1, q_72.2.2.1, q_72.2.2.2.1, q_72.2.2.2.2.1, q_72.2.2.2.2.2.1, q_72.2.2.2.2.2.2.1, q_72.2.2.2.2.2.2.2.1, q_72.2.2.2.2.2.2.2.2.1, q_72.2.2.2.2.2.2.2.2.2)))) else (some ((-7), (q_72.2.1, q_72.2.2.1, q_72.2.2.2.1, q_72.2.2.2.2.1, q_72.2.2.2.2.2.1, q_72.2.2.2.2.2.2.1, q_72.2.2.2.2.2.2.2.1, q_72.2.2.2.2.2.2.2.2.1, q_72.2.2.2.2.2.2.2.2.2))))) else (if (v1 / 10) = 2 then (ogi v2 5 (if (q_72.2.2.2.2.1 (Int32.toNatClampNeg v2)) = 0 then (ogi v2 5 (some ((q_72.2.2.1 (Int32.toNatClampNeg v2)), (q_72.2.1, q_72.2.2.1, q_72.2.2.2.1, q_72.2.2.2.2.1, q_72.2.2.2.2.2.1, q_72.2.2.2.2.2.2.1, q_72.2.2.2.2.2.2.2.1, q_72.2.2.2.2.2.2.2.2.1, q_72.2.2.2.2.2.2.2.2.2)))) else (some ((-7), (q_72.2.1, q_72.2.2.1, q_72.2.2.2.1, q_72.2.2.2.2.1, q_72.2.2.2.2.2.1, q_72.2.2.2.2.2.2.1, q_72.2.2.2.2.2.2.2.1, q_72.2.2.2.2.2.2.2.2.1, q_72.2.2.2.2.2.2.2.2.2))))) else (if (v1 / 10) = 3 then (ogi v2 5 (if (q_72.2.2.2.2.1 (Int32.toNatClampNeg v2)) = 0 then (ogi v2 5 (if (q_72.2.2.1 (Int32.toNatClampNeg v2)) < 0 then (some (q_72.2.2.2.2.2.2.2.2.1, (q_72.2.1, q_72.2.2.1, q_72.2.2.2.1, q_72.2.2.2.2.1, q_72.2.2.2.2.2.1, q_72.2.2.2.2.2.2.1, q_72.2.2.2.2.2.2.2.1, q_72.2.2.2.2.2.2.2.2.1, q_72.2.2.2.2.2.2.2.2.2))) else (ogi v2 5 (some ((q_72.2.2.2.1 (Int32.toNatClampNeg v2)), (q_72.2.1, q_72.2.2.1, q_72.2.2.2.1, q_72.2.2.2.2.1, q_72.2.2.2.2.2.1, q_72.2.2.2.2.2.2.1, q_72.2.2.2.2.2.2.2.1, q_72.2.2.2.2.2.2.2.2.1, q_72.2.2.2.2.2.2.2.2.2)))))) else (some ((-7), (q_72.2.1, q_72.2.2.1, q_72.2.2.2.1, q_72.2.2.2.2.1, q_72.2.2.2.2.2.1, q_72.2.2.2.2.2.2.1, q_72.2.2.2.2.2.2.2.1, q_72.2.2.2.2.2.2.2.2.1, q_72.2.2.2.2.2.2.2.2.2))))) else (ogi v2 5 (some ((q_72.2.2.2.2.2.2.1 (Int32.toNatClampNeg v2)), (q_72.2.1, q_72.2.2.1, q_72.2.2.2.1, q_72.2.2.2.2.1, q_72.2.2.2.2.2.1, q_72.2.2.2.2.2.2.1, q_72.2.2.2.2.2.2.2.1, q_72.2.2.2.2.2.2.2.2.1, q_72.2.2.2.2.2.2.2.2.2)))))))) else (some ((-3), (q_72.2.1, q_72.2.2.1, q_72.2.2.2.1, q_72.2.2.2.2.1, q_72.2.2.2.2.2.1, q_72.2.2.2.2.2.2.1, q_72.2.2.2.2.2.2.2.1, q_72.2.2.2.2.2.2.2.2.1, q_72.2.2.2.2.2.2.2.2.2))))))) else (some ((-5), (f_bears, f_borneBy, f_due, f_gone, f_sunk, f_times, f_whoBore, x_t_day, x_t_reason)))))
noncomputable def m_X8_log_40 (f_may : (Nat → Int32)) (f_pad : (Nat → Int32)) (x_t_signs : Int32) (x_t_asked : Int32) (v1 : Int32) (v2 : Int32) (f_bears : (Nat → Int32)) (f_borneBy : (Nat → Int32)) (f_due : (Nat → Int32)) (f_gone : (Nat → Int32)) (f_sunk : (Nat → Int32)) (f_times : (Nat → Int32)) (f_whoBore : (Nat → Int32)) (x_t_day : Int32) (x_t_reason : Int32) : Option (Int32 × ((Nat → Int32) × (Nat → Int32) × (Nat → Int32) × (Nat → Int32) × (Nat → Int32) × (Nat → Int32) × (Nat → Int32) × Int32 × Int32)) := (m_X8_log_45 f_may f_pad x_t_signs x_t_asked v1 v2 1 f_bears f_borneBy f_due f_gone f_sunk f_times f_whoBore x_t_day x_t_reason)
noncomputable def m_X8_log_44 (f_may : (Nat → Int32)) (f_pad : (Nat → Int32)) (x_t_signs : Int32) (x_t_asked : Int32) (v1 : Int32) (v2 : Int32) (f_bears : (Nat → Int32)) (f_borneBy : (Nat → Int32)) (f_due : (Nat → Int32)) (f_gone : (Nat → Int32)) (f_sunk : (Nat → Int32)) (f_times : (Nat → Int32)) (f_whoBore : (Nat → Int32)) (x_t_day : Int32) (x_t_reason : Int32) : Option (Int32 × ((Nat → Int32) × (Nat → Int32) × (Nat → Int32) × (Nat → Int32) × (Nat → Int32) × (Nat → Int32) × (Nat → Int32) × Int32 × Int32)) := (m_X8_log_45 f_may f_pad x_t_signs x_t_asked v1 v2 0 f_bears f_borneBy f_due f_gone f_sunk f_times f_whoBore x_t_day x_t_reason)
noncomputable def m_X8_log (f_may : (Nat → Int32)) (f_pad : (Nat → Int32)) (x_t_signs : Int32) (x_t_asked : Int32) (f_bears : (Nat → Int32)) (f_borneBy : (Nat → Int32)) (f_due : (Nat → Int32)) (f_gone : (Nat → Int32)) (f_sunk : (Nat → Int32)) (f_times : (Nat → Int32)) (f_whoBore : (Nat → Int32)) (x_t_day : Int32) (x_t_reason : Int32) (v1 : Int32) : Option (Int32 × ((Nat → Int32) × (Nat → Int32) × (Nat → Int32) × (Nat → Int32) × (Nat → Int32) × (Nat → Int32) × (Nat → Int32) × Int32 × Int32)) := ogl (v1 - v1 / 10 * 10) (fun (v2_4 : Int32) => if v1 = 0 then ((m_X8_log_40 f_may f_pad x_t_signs x_t_asked v1 v2_4 f_bears f_borneBy f_due f_gone f_sunk f_times f_whoBore x_t_day x_t_reason)) else (ogb (m_X8_in v1 10 15) (fun q_14 => if q_14 = 0 then (ogb (m_X8_in v1 20 49) (fun q_25 => if q_25 = 0 then ((m_X8_log_44 f_may f_pad x_t_signs x_t_asked v1 v2_4 f_bears f_borneBy f_due f_gone f_sunk f_times f_whoBore x_t_day x_t_reason)) else (ogb (m_X8_in v2_4 0 4) (fun q_34 => if q_34 = 0 then ((m_X8_log_44 f_may f_pad x_t_signs x_t_asked v1 v2_4 f_bears f_borneBy f_due f_gone f_sunk f_times f_whoBore x_t_day x_t_reason)) else ((m_X8_log_40 f_may f_pad x_t_signs x_t_asked v1 v2_4 f_bears f_borneBy f_due f_gone f_sunk f_times f_whoBore x_t_day x_t_reason)))))) else ((m_X8_log_40 f_may f_pad x_t_signs x_t_asked v1 v2_4 f_bears f_borneBy f_due f_gone f_sunk f_times f_whoBore x_t_day x_t_reason)))))
set_option maxHeartbeats 4000000 in
set_option maxRecDepth 100000 in
theorem c_X8_log (l : Launch) (D : va_G) (cI cZ : ClassId) (a_t a_bears a_borneBy a_due a_gone a_may a_pad a_sunk a_times a_whoBore b_voyage b_lucky b_worths b_ranks b_gives b_best b_holds b_refused b_sums b_image b_isKept : Nat) (f_bears : (Nat → Int32)) (f_borneBy : (Nat → Int32)) (f_due : (Nat → Int32)) (f_gone : (Nat → Int32)) (f_may : (Nat → Int32)) (f_pad : (Nat → Int32)) (f_sunk : (Nat → Int32)) (f_times : (Nat → Int32)) (f_whoBore : (Nat → Int32)) (x_t_signs : Int32) (x_t_day : Int32) (x_t_reason : Int32) (x_t_asked : Int32) (v1 : Int32) {res : (Int32 × ((Nat → Int32) × (Nat → Int32) × (Nat → Int32) × (Nat → Int32) × (Nat → Int32) × (Nat → Int32) × (Nat → Int32) × Int32 × Int32))} (h : m_X8_log f_may f_pad x_t_signs x_t_asked f_bears f_borneBy f_due f_gone f_sunk f_times f_whoBore x_t_day x_t_reason v1 = some res) : CT l yX8_log wsX8_log ({ frames := 3, cells := 0, slots := 0, locals := 70 } : Room) D cI cZ [.ref a_t, .int v1] [(a_t, .inr (8, [.ref a_may, .ref b_voyage, .ref b_lucky, .ref b_worths, .ref b_ranks, .int x_t_signs, .ref a_pad, .int x_t_day, .int x_t_reason, .ref a_bears, .ref a_due, .ref a_borneBy, .ref a_gone, .ref a_sunk, .ref a_times, .int x_t_asked, .ref a_whoBore, .ref b_gives, .ref b_best, .ref b_holds, .ref b_refused, .ref b_sums, .ref b_image, .ref b_isKept])), (a_bears, .inl (cI, 6, .inl f_bears)), (a_borneBy, .inl (cI, 5, .inl f_borneBy)), (a_due, .inl (cI, 5, .inl f_due)), (a_gone, .inl (cZ, 5, .inl f_gone)), (a_may, .inl (cI, 6, .inl f_may)), (a_pad, .inl (cI, 48, .inl f_pad)), (a_sunk, .inl (cZ, 6, .inl f_sunk)), (a_times, .inl (cI, 5, .inl f_times)), (a_whoBore, .inl (cI, 5, .inl f_whoBore))] (QI D [(a_t, .inr (8, [.ref a_may, .ref b_voyage, .ref b_lucky, .ref b_worths, .ref b_ranks, .int x_t_signs, .ref a_pad, .int x_t_day, .int x_t_reason, .ref a_bears, .ref a_due, .ref a_borneBy, .ref a_gone, .ref a_sunk, .ref a_times, .int x_t_asked, .ref a_whoBore, .ref b_gives, .ref b_best, .ref b_holds, .ref b_refused, .ref b_sums, .ref b_image, .ref b_isKept])), (a_bears, .inl (cI, 6, .inl f_bears)), (a_borneBy, .inl (cI, 5, .inl f_borneBy)), (a_due, .inl (cI, 5, .inl f_due)), (a_gone, .inl (cZ, 5, .inl f_gone)), (a_may, .inl (cI, 6, .inl f_may)), (a_pad, .inl (cI, 48, .inl f_pad)), (a_sunk, .inl (cZ, 6, .inl f_sunk)), (a_times, .inl (cI, 5, .inl f_times)), (a_whoBore, .inl (cI, 5, .inl f_whoBore))] (fun (r : Int32) (u : (Nat → Int32) × (Nat → Int32) × (Nat → Int32) × (Nat → Int32) × (Nat → Int32) × (Nat → Int32) × (Nat → Int32) × Int32 × Int32) => r = res.1 ∧ u = res.2) (fun (u : (Nat → Int32) × (Nat → Int32) × (Nat → Int32) × (Nat → Int32) × (Nat → Int32) × (Nat → Int32) × (Nat → Int32) × Int32 × Int32) => [(a_t, .inr (8, [.ref a_may, .ref b_voyage, .ref b_lucky, .ref b_worths, .ref b_ranks, .int x_t_signs, .ref a_pad, .int u.2.2.2.2.2.2.2.1, .int u.2.2.2.2.2.2.2.2, .ref a_bears, .ref a_due, .ref a_borneBy, .ref a_gone, .ref a_sunk, .ref a_times, .int x_t_asked, .ref a_whoBore, .ref b_gives, .ref b_best, .ref b_holds, .ref b_refused, .ref b_sums, .ref b_image, .ref b_isKept])), (a_bears, .inl (cI, 6, .inl u.1)), (a_borneBy, .inl (cI, 5, .inl u.2.1)), (a_due, .inl (cI, 5, .inl u.2.2.1)), (a_gone, .inl (cZ, 5, .inl u.2.2.2.1)), (a_may, .inl (cI, 6, .inl f_may)), (a_pad, .inl (cI, 48, .inl f_pad)), (a_sunk, .inl (cZ, 6, .inl u.2.2.2.2.1)), (a_times, .inl (cI, 5, .inl u.2.2.2.2.2.1)), (a_whoBore, .inl (cI, 5, .inl u.2.2.2.2.2.2.1))])) 0 0 := by
  have h : (ogl (v1 - v1 / 10 * 10) (fun (v2_4 : Int32) => if v1 = 0 then ((m_X8_log_40 f_may f_pad x_t_signs x_t_asked v1 v2_4 f_bears f_borneBy f_due f_gone f_sunk f_times f_whoBore x_t_day x_t_reason)) else (ogb (m_X8_in v1 10 15) (fun q_14 => if q_14 = 0 then (ogb (m_X8_in v1 20 49) (fun q_25 => if q_25 = 0 then ((m_X8_log_44 f_may f_pad x_t_signs x_t_asked v1 v2_4 f_bears f_borneBy f_due f_gone f_sunk f_times f_whoBore x_t_day x_t_reason)) else (ogb (m_X8_in v2_4 0 4) (fun q_34 => if q_34 = 0 then ((m_X8_log_44 f_may f_pad x_t_signs x_t_asked v1 v2_4 f_bears f_borneBy f_due f_gone f_sunk f_times f_whoBore x_t_day x_t_reason)) else ((m_X8_log_40 f_may f_pad x_t_signs x_t_asked v1 v2_4 f_bears f_borneBy f_due f_gone f_sunk f_times f_whoBore x_t_day x_t_reason)))))) else ((m_X8_log_40 f_may f_pad x_t_signs x_t_asked v1 v2_4 f_bears f_borneBy f_due f_gone f_sunk f_times f_whoBore x_t_day x_t_reason))))) : Option (Int32 × ((Nat → Int32) × (Nat → Int32) × (Nat → Int32) × (Nat → Int32) × (Nat → Int32) × (Nat → Int32) × (Nat → Int32) × Int32 × Int32))) = some res := h
  refine ct_entry (cc := cX8_log) (nl := 4) (ret := (some .int)) (own := RX8) (lv0 := [(0, .ref a_t), (1, .int v1)]) (by decide) rfl rfl (Nat.le_of_ble_eq_true rfl) rfl ?_
  intro p e s m args below meth c A Q hA hQ hr hnm B
  have iX8 : ∀ w ∈ wsX80, w ∈ wsX8_log := by decide +kernel
  have cut_45 : ∀ (v1 : Int32) (v2 : Int32) (s0 : Int32) (f_bears : (Nat → Int32)) (f_borneBy : (Nat → Int32)) (f_due : (Nat → Int32)) (f_gone : (Nat → Int32)) (f_sunk : (Nat → Int32)) (f_times : (Nat → Int32)) (f_whoBore : (Nat → Int32)) (x_t_day : Int32) (x_t_reason : Int32), m_X8_log_45 f_may f_pad x_t_signs x_t_asked v1 v2 s0 f_bears f_borneBy f_due f_gone f_sunk f_times f_whoBore x_t_day x_t_reason = some res → WW p l e (headSpec wsX8_log ({ frames := 3, cells := 0, slots := 0, locals := 70 } : Room)).room s m args below meth c D A 4 0 0 Q [(a_t, .inr (8, [.ref a_may, .ref b_voyage, .ref b_lucky, .ref b_worths, .ref b_ranks, .int x_t_signs, .ref a_pad, .int x_t_day, .int x_t_reason, .ref a_bears, .ref a_due, .ref a_borneBy, .ref a_gone, .ref a_sunk, .ref a_times, .int x_t_asked, .ref a_whoBore, .ref b_gives, .ref b_best, .ref b_holds, .ref b_refused, .ref b_sums, .ref b_image, .ref b_isKept])), (a_bears, .inl (cI, 6, .inl f_bears)), (a_borneBy, .inl (cI, 5, .inl f_borneBy)), (a_due, .inl (cI, 5, .inl f_due)), (a_gone, .inl (cZ, 5, .inl f_gone)), (a_may, .inl (cI, 6, .inl f_may)), (a_pad, .inl (cI, 48, .inl f_pad)), (a_sunk, .inl (cZ, 6, .inl f_sunk)), (a_times, .inl (cI, 5, .inl f_times)), (a_whoBore, .inl (cI, 5, .inl f_whoBore))] [(0, .ref a_t), (1, .int v1), (2, .int v2)] [.int s0] 45 := by
    intro v1 v2 s0 f_bears f_borneBy f_due f_gone f_sunk f_times f_whoBore x_t_day x_t_reason h
    replace h : (if s0 = 0 then (some ((-2), (f_bears, f_borneBy, f_due, f_gone, f_sunk, f_times, f_whoBore, x_t_day, x_t_reason))) else (ogb (m_X8_faultOf f_pad x_t_signs) (fun q_54 => if q_54 < 0 then (ogb (m_X8_opens f_pad x_t_signs) (fun q_64 => if 0 < q_64 then (some ((-3), (f_bears, f_borneBy, f_due, f_gone, f_sunk, f_times, f_whoBore, x_t_day, x_t_reason))) else (ogb (m_X8_goLog f_may f_pad x_t_signs x_t_asked f_bears f_borneBy f_due f_gone f_sunk f_times f_whoBore x_t_day x_t_reason 0) (fun q_72 => if q_72.1 < 0 then (if (v1 / 10) = 0 then (some (q_72.2.2.2.2.2.2.2.2.1, (q_72.2.1, q_72.2.2.1, q_72.2.2.2.1, q_72.2.2.2.2.1, q_72.2.2.2.2.2.1, q_72.2.2.2.2.2.2.1, q_72.2.2.2.2.2.2.2.1, q_72.2.2.2.2.2.2.2.2.1, q_72.2.2.2.2.2.2.2.2.2))) else (if (v1 / 10) = 1 then (ogi v2 6 (if (q_72.2.2.2.2.2.1 (Int32.toNatClampNeg v2)) = 0 then (ogi v2 6 (some ((q_72.2.1 (Int32.toNatClampNeg v2)), (q_72.2.1, q_72.2.2.1, q_72.2.2.2.1, q_72.2.2.2.2.1, q_72.2.2.2.2.2.1, q_72.2.2.2.2.2.2.1, q_72.2.2.2.2.2.2.2.1, q_72.2.2.2.2.2.2.2.2.1, q_72.2.2.2.2.2.2.2.2.2)))) else (some ((-7), (q_72.2.1, q_72.2.2.1, q_72.2.2.2.1, q_72.2.2.2.2.1, q_72.2.2.2.2.2.1, q_72.2.2.2.2.2.2.1, q_72.2.2.2.2.2.2.2.1, q_72.2.2.2.2.2.2.2.2.1, q_72.2.2.2.2.2.2.2.2.2))))) else (if (v1 / 10) = 2 then (ogi v2 5 (if (q_72.2.2.2.2.1 (Int32.toNatClampNeg v2)) = 0 then (ogi v2 5 (some ((q_72.2.2.1 (Int32.toNatClampNeg v2)), (q_72.2.1, q_72.2.2.1, q_72.2.2.2.1, q_72.2.2.2.2.1, q_72.2.2.2.2.2.1, q_72.2.2.2.2.2.2.1, q_72.2.2.2.2.2.2.2.1, q_72.2.2.2.2.2.2.2.2.1, q_72.2.2.2.2.2.2.2.2.2)))) else (some ((-7), (q_72.2.1, q_72.2.2.1, q_72.2.2.2.1, q_72.2.2.2.2.1, q_72.2.2.2.2.2.1, q_72.2.2.2.2.2.2.1, q_72.2.2.2.2.2.2.2.1, q_72.2.2.2.2.2.2.2.2.1, q_72.2.2.2.2.2.2.2.2.2))))) else (if (v1 / 10) = 3 then (ogi v2 5 (if (q_72.2.2.2.2.1 (Int32.toNatClampNeg v2)) = 0 then (ogi v2 5 (if (q_72.2.2.1 (Int32.toNatClampNeg v2)) < 0 then (some (q_72.2.2.2.2.2.2.2.2.1, (q_72.2.1, q_72.2.2.1, q_72.2.2.2.1, q_72.2.2.2.2.1, q_72.2.2.2.2.2.1, q_72.2.2.2.2.2.2.1, q_72.2.2.2.2.2.2.2.1, q_72.2.2.2.2.2.2.2.2.1, q_72.2.2.2.2.2.2.2.2.2))) else (ogi v2 5 (some ((q_72.2.2.2.1 (Int32.toNatClampNeg v2)), (q_72.2.1, q_72.2.2.1, q_72.2.2.2.1, q_72.2.2.2.2.1, q_72.2.2.2.2.2.1, q_72.2.2.2.2.2.2.1, q_72.2.2.2.2.2.2.2.1, q_72.2.2.2.2.2.2.2.2.1, q_72.2.2.2.2.2.2.2.2.2)))))) else (some ((-7), (q_72.2.1, q_72.2.2.1, q_72.2.2.2.1, q_72.2.2.2.2.1, q_72.2.2.2.2.2.1, q_72.2.2.2.2.2.2.1, q_72.2.2.2.2.2.2.2.1, q_72.2.2.2.2.2.2.2.2.1, q_72.2.2.2.2.2.2.2.2.2))))) else (ogi v2 5 (some ((q_72.2.2.2.2.2.2.1 (Int32.toNatClampNeg v2)), (q_72.2.1, q_72.2.2.1, q_72.2.2.2.1, q_72.2.2.2.2.1, q_72.2.2.2.2.2.1, q_72.2.2.2.2.2.2.1, q_72.2.2.2.2.2.2.2.1, q_72.2.2.2.2.2.2.2.2.1, q_72.2.2.2.2.2.2.2.2.2)))))))) else (some ((-3), (q_72.2.1, q_72.2.2.1, q_72.2.2.2.1, q_72.2.2.2.2.1, q_72.2.2.2.2.2.1, q_72.2.2.2.2.2.2.1, q_72.2.2.2.2.2.2.2.1, q_72.2.2.2.2.2.2.2.2.1, q_72.2.2.2.2.2.2.2.2.2))))))) else (some ((-5), (f_bears, f_borneBy, f_due, f_gone, f_sunk, f_times, f_whoBore, x_t_day, x_t_reason))))) : Option (Int32 × ((Nat → Int32) × (Nat → Int32) × (Nat → Int32) × (Nat → Int32) × (Nat → Int32) × (Nat → Int32) × (Nat → Int32) × Int32 × Int32))) = some res := h
    refine ww_istore_n B dX8_log_45 (lv' := [(3, .int s0), (0, .ref a_t), (1, .int v1), (2, .int v2)]) (by decide) rfl ?_
    refine ww_iload_n B dX8_log_46 0 rfl ?_
    refine ww_if_ne B 53 dX8_log_47 (by decide) (fun c_47 => ?_) (fun c_47 => ?_)
    · replace h := og_f c_47 h
      refine ww_aload_n B dX8_log_53 1 rfl ?_
      obtain ⟨q_54, hq_54, h⟩ := og_b h
      refine ww_ci0 B (k' := 0) (n' := 0) rfl rfl [0, 6] [1, 2, 3, 4, 5, 7, 8, 9] (wr := [(a_bears, .inl (cI, 6, .inl f_bears)), (a_borneBy, .inl (cI, 5, .inl f_borneBy)), (a_due, .inl (cI, 5, .inl f_due)), (a_gone, .inl (cZ, 5, .inl f_gone)), (a_may, .inl (cI, 6, .inl f_may)), (a_sunk, .inl (cZ, 6, .inl f_sunk)), (a_times, .inl (cI, 5, .inl f_times)), (a_whoBore, .inl (cI, 5, .inl f_whoBore))]) (st := []) rfl rfl (by decide) (rr_V B (c_X8_faultOf l D cI cZ a_t a_pad a_may b_voyage b_lucky b_worths b_ranks a_bears a_due a_borneBy a_gone a_sunk a_times a_whoBore b_gives b_best b_holds b_refused b_sums b_image b_isKept f_pad x_t_signs x_t_day x_t_reason x_t_asked hq_54) gX8_log_X8_faultOf rfl rfl rfl (N := 0) rfl (by decide +kernel) ⟨Nat.le_of_ble_eq_true rfl, Nat.le_of_ble_eq_true rfl⟩ rfl dX8_log_54 0 rfl rfl (Nat.le_of_ble_eq_true rfl) ⟨Nat.le_of_ble_eq_true rfl, Nat.le_of_ble_eq_true rfl⟩) (ws' := [(a_bears, .inl (cI, 6, .inl f_bears)), (a_borneBy, .inl (cI, 5, .inl f_borneBy)), (a_due, .inl (cI, 5, .inl f_due)), (a_gone, .inl (cZ, 5, .inl f_gone)), (a_may, .inl (cI, 6, .inl f_may)), (a_sunk, .inl (cZ, 6, .inl f_sunk)), (a_times, .inl (cI, 5, .inl f_times)), (a_whoBore, .inl (cI, 5, .inl f_whoBore)), (a_t, .inr (8, [.ref a_may, .ref b_voyage, .ref b_lucky, .ref b_worths, .ref b_ranks, .int x_t_signs, .ref a_pad, .int x_t_day, .int x_t_reason, .ref a_bears, .ref a_due, .ref a_borneBy, .ref a_gone, .ref a_sunk, .ref a_times, .int x_t_asked, .ref a_whoBore, .ref b_gives, .ref b_best, .ref b_holds, .ref b_refused, .ref b_sums, .ref b_image, .ref b_isKept])), (a_pad, .inl (cI, 48, .inl f_pad))]) rfl ?_
      refine ww_if_lt B 63 dX8_log_57 (by decide) (fun c_57 => ?_) (fun c_57 => ?_)
      · replace h := og_t c_57 h
        refine ww_aload_n B dX8_log_63 1 rfl ?_
        obtain ⟨q_64, hq_64, h⟩ := og_b h
        refine ww_ci0 B (k' := 0) (n' := 0) rfl rfl [8, 9] [0, 1, 2, 3, 4, 5, 6, 7] (wr := [(a_bears, .inl (cI, 6, .inl f_bears)), (a_borneBy, .inl (cI, 5, .inl f_borneBy)), (a_due, .inl (cI, 5, .inl f_due)), (a_gone, .inl (cZ, 5, .inl f_gone)), (a_may, .inl (cI, 6, .inl f_may)), (a_sunk, .inl (cZ, 6, .inl f_sunk)), (a_times, .inl (cI, 5, .inl f_times)), (a_whoBore, .inl (cI, 5, .inl f_whoBore))]) (st := []) rfl rfl (by decide) (rr_V B (c_X8_opens l D cI cZ a_t a_pad a_may b_voyage b_lucky b_worths b_ranks a_bears a_due a_borneBy a_gone a_sunk a_times a_whoBore b_gives b_best b_holds b_refused b_sums b_image b_isKept f_pad x_t_signs x_t_day x_t_reason x_t_asked hq_64) gX8_log_X8_opens rfl rfl rfl (N := 0) rfl (by decide +kernel) ⟨Nat.le_of_ble_eq_true rfl, Nat.le_of_ble_eq_true rfl⟩ rfl dX8_log_64 0 rfl rfl (Nat.le_of_ble_eq_true rfl) ⟨Nat.le_of_ble_eq_true rfl, Nat.le_of_ble_eq_true rfl⟩) (ws' := [(a_bears, .inl (cI, 6, .inl f_bears)), (a_borneBy, .inl (cI, 5, .inl f_borneBy)), (a_due, .inl (cI, 5, .inl f_due)), (a_gone, .inl (cZ, 5, .inl f_gone)), (a_may, .inl (cI, 6, .inl f_may)), (a_sunk, .inl (cZ, 6, .inl f_sunk)), (a_times, .inl (cI, 5, .inl f_times)), (a_whoBore, .inl (cI, 5, .inl f_whoBore)), (a_t, .inr (8, [.ref a_may, .ref b_voyage, .ref b_lucky, .ref b_worths, .ref b_ranks, .int x_t_signs, .ref a_pad, .int x_t_day, .int x_t_reason, .ref a_bears, .ref a_due, .ref a_borneBy, .ref a_gone, .ref a_sunk, .ref a_times, .int x_t_asked, .ref a_whoBore, .ref b_gives, .ref b_best, .ref b_holds, .ref b_refused, .ref b_sums, .ref b_image, .ref b_isKept])), (a_pad, .inl (cI, 48, .inl f_pad))]) rfl ?_
        refine ww_if_gt B 78 dX8_log_67 (by decide) (fun c_67 => ?_) (fun c_67 => ?_)
        · replace h := og_t c_67 h
          refine ww_bipush B dX8_log_78 (v := (-3)) (by decide) ?_
          exact ww_iret B hA hQ hr dX8_log_80 (f_bears, f_borneBy, f_due, f_gone, f_sunk, f_times, f_whoBore, x_t_day, x_t_reason) [8, 0, 1, 2, 3, 4, 9, 5, 6, 7] rfl (by decide) (og_p h)
        · replace h := og_f c_67 h
          refine ww_aload_n B dX8_log_70 1 rfl ?_
          refine ww_iconst B dX8_log_71 (v := 0) (by decide) ?_
          obtain ⟨q_72, hq_72, h⟩ := og_b h
          refine ww_ciM B (k' := 0) (n' := 0) rfl rfl [8, 0, 1, 2, 3, 4, 9, 5, 6, 7] [] (wr := []) (st := []) rfl rfl (by decide) (rr_V B (c_X8_goLog l D cI cZ a_t a_bears a_borneBy a_due a_gone a_may a_pad a_sunk a_times a_whoBore b_voyage b_lucky b_worths b_ranks b_gives b_best b_holds b_refused b_sums b_image b_isKept f_bears f_borneBy f_due f_gone f_may f_pad f_sunk f_times f_whoBore x_t_signs x_t_day x_t_reason x_t_asked 0 hq_72) gX8_log_X8_goLog rfl rfl rfl (N := 1) rfl (by decide +kernel) ⟨Nat.le_of_ble_eq_true rfl, Nat.le_of_ble_eq_true rfl⟩ rfl dX8_log_72 0 rfl rfl (Nat.le_of_ble_eq_true rfl) ⟨Nat.le_of_ble_eq_true rfl, Nat.le_of_ble_eq_true rfl⟩) (ws' := [(a_t, .inr (8, [.ref a_may, .ref b_voyage, .ref b_lucky, .ref b_worths, .ref b_ranks, .int x_t_signs, .ref a_pad, .int q_72.2.2.2.2.2.2.2.2.1, .int q_72.2.2.2.2.2.2.2.2.2, .ref a_bears, .ref a_due, .ref a_borneBy, .ref a_gone, .ref a_sunk, .ref a_times, .int x_t_asked, .ref a_whoBore, .ref b_gives, .ref b_best, .ref b_holds, .ref b_refused, .ref b_sums, .ref b_image, .ref b_isKept])), (a_bears, .inl (cI, 6, .inl q_72.2.1)), (a_borneBy, .inl (cI, 5, .inl q_72.2.2.1)), (a_due, .inl (cI, 5, .inl q_72.2.2.2.1)), (a_gone, .inl (cZ, 5, .inl q_72.2.2.2.2.1)), (a_may, .inl (cI, 6, .inl f_may)), (a_pad, .inl (cI, 48, .inl f_pad)), (a_sunk, .inl (cZ, 6, .inl q_72.2.2.2.2.2.1)), (a_times, .inl (cI, 5, .inl q_72.2.2.2.2.2.2.1)), (a_whoBore, .inl (cI, 5, .inl q_72.2.2.2.2.2.2.2.1))]) rfl ?_
          refine ww_if_lt B 81 dX8_log_75 (by decide) (fun c_75 => ?_) (fun c_75 => ?_)
          · replace h := og_t c_75 h
            refine ww_iload_n B dX8_log_81 2 rfl ?_
            refine ww_bipush B dX8_log_82 (v := 10) (by decide) ?_
            refine ww_idiv B dX8_log_84 (by decide) ?_
            by_cases c_85_0 : (v1 / 10) = 0
            · replace h := og_t c_85_0 h
              refine ww_tableIn B 116 dX8_log_85 (off := 31) (by rw [c_85_0]; decide) (by rw [c_85_0]; decide) (by rw [c_85_0]; rfl) (by decide) ?_
              refine ww_aload_n B dX8_log_116 1 rfl ?_
              refine ww_get (ci := 8) (T := TX8) (C := RX8) (N := 24) B iX8 0 rfl rfl 7 (by decide) (by decide +kernel) rfl rfl dX8_log_117 ?_
              exact ww_iret B hA hQ hr dX8_log_120 (q_72.2.1, q_72.2.2.1, q_72.2.2.2.1, q_72.2.2.2.2.1, q_72.2.2.2.2.2.1, q_72.2.2.2.2.2.2.1, q_72.2.2.2.2.2.2.2.1, q_72.2.2.2.2.2.2.2.2.1, q_72.2.2.2.2.2.2.2.2.2) [0, 1, 2, 3, 4, 5, 6, 7, 8, 9] rfl (by decide) (og_p h)
            · replace h := og_f c_85_0 h
              by_cases c_85_1 : (v1 / 10) = 1
              · replace h := og_t c_85_1 h
                refine ww_tableIn B 121 dX8_log_85 (off := 36) (by rw [c_85_1]; decide) (by rw [c_85_1]; decide) (by rw [c_85_1]; rfl) (by decide) ?_
                refine ww_aload_n B dX8_log_121 1 rfl ?_
                refine ww_get (ci := 8) (T := TX8) (C := RX8) (N := 24) B iX8 0 rfl rfl 13 (by decide) (by decide +kernel) rfl rfl dX8_log_122 ?_
                refine ww_iload_n B dX8_log_125 3 rfl ?_
                obtain ⟨i_126, h⟩ := og_i h
                refine ww_zald B 7 rfl i_126 dX8_log_126 ?_
                refine ww_if_eq B 135 dX8_log_127 (by decide) (fun c_127 => ?_) (fun c_127 => ?_)
                · replace h := og_t c_127 h
                  refine ww_aload_n B dX8_log_135 1 rfl ?_
                  refine ww_get (ci := 8) (T := TX8) (C := RX8) (N := 24) B iX8 0 rfl rfl 9 (by decide) (by decide +kernel) rfl rfl dX8_log_136 ?_
                  refine ww_iload_n B dX8_log_139 3 rfl ?_
                  obtain ⟨i_140, h⟩ := og_i h
                  refine ww_iald B 1 rfl i_140 dX8_log_140 ?_
                  exact ww_iret B hA hQ hr dX8_log_141 (q_72.2.1, q_72.2.2.1, q_72.2.2.2.1, q_72.2.2.2.2.1, q_72.2.2.2.2.2.1, q_72.2.2.2.2.2.2.1, q_72.2.2.2.2.2.2.2.1, q_72.2.2.2.2.2.2.2.2.1, q_72.2.2.2.2.2.2.2.2.2) [0, 1, 2, 3, 4, 5, 6, 7, 8, 9] rfl (by decide) (og_p h)
                · replace h := og_f c_127 h
                  refine ww_bipush B dX8_log_130 (v := (-7)) (by decide) ?_
                  refine ww_goto B 141 dX8_log_132 (by decide) ?_
                  exact ww_iret B hA hQ hr dX8_log_141 (q_72.2.1, q_72.2.2.1, q_72.2.2.2.1, q_72.2.2.2.2.1, q_72.2.2.2.2.2.1, q_72.2.2.2.2.2.2.1, q_72.2.2.2.2.2.2.2.1, q_72.2.2.2.2.2.2.2.2.1, q_72.2.2.2.2.2.2.2.2.2) [0, 1, 2, 3, 4, 5, 6, 7, 8, 9] rfl (by decide) (og_p h)
              · replace h := og_f c_85_1 h
                by_cases c_85_2 : (v1 / 10) = 2
                · replace h := og_t c_85_2 h
                  refine ww_tableIn B 142 dX8_log_85 (off := 57) (by rw [c_85_2]; decide) (by rw [c_85_2]; decide) (by rw [c_85_2]; rfl) (by decide) ?_
                  refine ww_aload_n B dX8_log_142 1 rfl ?_
                  refine ww_get (ci := 8) (T := TX8) (C := RX8) (N := 24) B iX8 0 rfl rfl 12 (by decide) (by decide +kernel) rfl rfl dX8_log_143 ?_
                  refine ww_iload_n B dX8_log_146 3 rfl ?_
                  obtain ⟨i_147, h⟩ := og_i h
                  refine ww_zald B 4 rfl i_147 dX8_log_147 ?_
                  refine ww_if_eq B 156 dX8_log_148 (by decide) (fun c_148 => ?_) (fun c_148 => ?_)
                  · replace h := og_t c_148 h
                    refine ww_aload_n B dX8_log_156 1 rfl ?_
                    refine ww_get (ci := 8) (T := TX8) (C := RX8) (N := 24) B iX8 0 rfl rfl 11 (by decide) (by decide +kernel) rfl rfl dX8_log_157 ?_
                    refine ww_iload_n B dX8_log_160 3 rfl ?_
                    obtain ⟨i_161, h⟩ := og_i h
                    refine ww_iald B 2 rfl i_161 dX8_log_161 ?_
                    exact ww_iret B hA hQ hr dX8_log_162 (q_72.2.1, q_72.2.2.1, q_72.2.2.2.1, q_72.2.2.2.2.1, q_72.2.2.2.2.2.1, q_72.2.2.2.2.2.2.1, q_72.2.2.2.2.2.2.2.1, q_72.2.2.2.2.2.2.2.2.1, q_72.2.2.2.2.2.2.2.2.2) [0, 1, 2, 3, 4, 5, 6, 7, 8, 9] rfl (by decide) (og_p h)
                  · replace h := og_f c_148 h
                    refine ww_bipush B dX8_log_151 (v := (-7)) (by decide) ?_
                    refine ww_goto B 162 dX8_log_153 (by decide) ?_
                    exact ww_iret B hA hQ hr dX8_log_162 (q_72.2.1, q_72.2.2.1, q_72.2.2.2.1, q_72.2.2.2.2.1, q_72.2.2.2.2.2.1, q_72.2.2.2.2.2.2.1, q_72.2.2.2.2.2.2.2.1, q_72.2.2.2.2.2.2.2.2.1, q_72.2.2.2.2.2.2.2.2.2) [0, 1, 2, 3, 4, 5, 6, 7, 8, 9] rfl (by decide) (og_p h)
                · replace h := og_f c_85_2 h
                  by_cases c_85_3 : (v1 / 10) = 3
                  · replace h := og_t c_85_3 h
                    refine ww_tableIn B 163 dX8_log_85 (off := 78) (by rw [c_85_3]; decide) (by rw [c_85_3]; decide) (by rw [c_85_3]; rfl) (by decide) ?_
                    refine ww_aload_n B dX8_log_163 1 rfl ?_
                    refine ww_get (ci := 8) (T := TX8) (C := RX8) (N := 24) B iX8 0 rfl rfl 12 (by decide) (by decide +kernel) rfl rfl dX8_log_164 ?_
                    refine ww_iload_n B dX8_log_167 3 rfl ?_
                    obtain ⟨i_168, h⟩ := og_i h
                    refine ww_zald B 4 rfl i_168 dX8_log_168 ?_
                    refine ww_if_eq B 177 dX8_log_169 (by decide) (fun c_169 => ?_) (fun c_169 => ?_)
                    · replace h := og_t c_169 h
                      refine ww_aload_n B dX8_log_177 1 rfl ?_
                      refine ww_get (ci := 8) (T := TX8) (C := RX8) (N := 24) B iX8 0 rfl rfl 11 (by decide) (by decide +kernel) rfl rfl dX8_log_178 ?_
                      refine ww_iload_n B dX8_log_181 3 rfl ?_
                      obtain ⟨i_182, h⟩ := og_i h
                      refine ww_iald B 2 rfl i_182 dX8_log_182 ?_
                      refine ww_if_lt B 195 dX8_log_183 (by decide) (fun c_183 => ?_) (fun c_183 => ?_)
                      · replace h := og_t c_183 h
                        refine ww_aload_n B dX8_log_195 1 rfl ?_
                        refine ww_get (ci := 8) (T := TX8) (C := RX8) (N := 24) B iX8 0 rfl rfl 7 (by decide) (by decide +kernel) rfl rfl dX8_log_196 ?_
                        exact ww_iret B hA hQ hr dX8_log_199 (q_72.2.1, q_72.2.2.1, q_72.2.2.2.1, q_72.2.2.2.2.1, q_72.2.2.2.2.2.1, q_72.2.2.2.2.2.2.1, q_72.2.2.2.2.2.2.2.1, q_72.2.2.2.2.2.2.2.2.1, q_72.2.2.2.2.2.2.2.2.2) [0, 1, 2, 3, 4, 5, 6, 7, 8, 9] rfl (by decide) (og_p h)
                      · replace h := og_f c_183 h
                        refine ww_aload_n B dX8_log_186 1 rfl ?_
                        refine ww_get (ci := 8) (T := TX8) (C := RX8) (N := 24) B iX8 0 rfl rfl 10 (by decide) (by decide +kernel) rfl rfl dX8_log_187 ?_
                        refine ww_iload_n B dX8_log_190 3 rfl ?_
                        obtain ⟨i_191, h⟩ := og_i h
                        refine ww_iald B 3 rfl i_191 dX8_log_191 ?_
                        refine ww_goto B 199 dX8_log_192 (by decide) ?_
                        exact ww_iret B hA hQ hr dX8_log_199 (q_72.2.1, q_72.2.2.1, q_72.2.2.2.1, q_72.2.2.2.2.1, q_72.2.2.2.2.2.1, q_72.2.2.2.2.2.2.1, q_72.2.2.2.2.2.2.2.1, q_72.2.2.2.2.2.2.2.2.1, q_72.2.2.2.2.2.2.2.2.2) [0, 1, 2, 3, 4, 5, 6, 7, 8, 9] rfl (by decide) (og_p h)
                    · replace h := og_f c_169 h
                      refine ww_bipush B dX8_log_172 (v := (-7)) (by decide) ?_
                      refine ww_goto B 199 dX8_log_174 (by decide) ?_
                      exact ww_iret B hA hQ hr dX8_log_199 (q_72.2.1, q_72.2.2.1, q_72.2.2.2.1, q_72.2.2.2.2.1, q_72.2.2.2.2.2.1, q_72.2.2.2.2.2.2.1, q_72.2.2.2.2.2.2.2.1, q_72.2.2.2.2.2.2.2.2.1, q_72.2.2.2.2.2.2.2.2.2) [0, 1, 2, 3, 4, 5, 6, 7, 8, 9] rfl (by decide) (og_p h)
                  · replace h := og_f c_85_3 h
                    have t_85_0 : ((v1 / 10)).toInt ≠ 0 := fun e => c_85_0 (Int32.toInt_inj.mp (e.trans (by decide)))
                    have t_85_1 : ((v1 / 10)).toInt ≠ 1 := fun e => c_85_1 (Int32.toInt_inj.mp (e.trans (by decide)))
                    have t_85_2 : ((v1 / 10)).toInt ≠ 2 := fun e => c_85_2 (Int32.toInt_inj.mp (e.trans (by decide)))
                    have t_85_3 : ((v1 / 10)).toInt ≠ 3 := fun e => c_85_3 (Int32.toInt_inj.mp (e.trans (by decide)))
                    refine ww_tableOut B 200 dX8_log_85 (by omega) (by decide) ?_
                    refine ww_aload_n B dX8_log_200 1 rfl ?_
                    refine ww_get (ci := 8) (T := TX8) (C := RX8) (N := 24) B iX8 0 rfl rfl 14 (by decide) (by decide +kernel) rfl rfl dX8_log_201 ?_
                    refine ww_iload_n B dX8_log_204 3 rfl ?_
                    obtain ⟨i_205, h⟩ := og_i h
                    refine ww_iald B 8 rfl i_205 dX8_log_205 ?_
                    exact ww_iret B hA hQ hr dX8_log_206 (q_72.2.1, q_72.2.2.1, q_72.2.2.2.1, q_72.2.2.2.2.1, q_72.2.2.2.2.2.1, q_72.2.2.2.2.2.2.1, q_72.2.2.2.2.2.2.2.1, q_72.2.2.2.2.2.2.2.2.1, q_72.2.2.2.2.2.2.2.2.2) [0, 1, 2, 3, 4, 5, 6, 7, 8, 9] rfl (by decide) (og_p h)
          · replace h := og_f c_75 h
            refine ww_bipush B dX8_log_78 (v := (-3)) (by decide) ?_
            exact ww_iret B hA hQ hr dX8_log_80 (q_72.2.1, q_72.2.2.1, q_72.2.2.2.1, q_72.2.2.2.2.1, q_72.2.2.2.2.2.1, q_72.2.2.2.2.2.2.1, q_72.2.2.2.2.2.2.2.1, q_72.2.2.2.2.2.2.2.2.1, q_72.2.2.2.2.2.2.2.2.2) [0, 1, 2, 3, 4, 5, 6, 7, 8, 9] rfl (by decide) (og_p h)
      · replace h := og_f c_57 h
        refine ww_bipush B dX8_log_60 (v := (-5)) (by decide) ?_
        exact ww_iret B hA hQ hr dX8_log_62 (f_bears, f_borneBy, f_due, f_gone, f_sunk, f_times, f_whoBore, x_t_day, x_t_reason) [8, 0, 1, 2, 3, 4, 9, 5, 6, 7] rfl (by decide) (og_p h)
    · replace h := og_t c_47 h
      refine ww_bipush B dX8_log_50 (v := (-2)) (by decide) ?_
      exact ww_iret B hA hQ hr dX8_log_52 (f_bears, f_borneBy, f_due, f_gone, f_sunk, f_times, f_whoBore, x_t_day, x_t_reason) [0, 1, 2, 3, 4, 5, 6, 7, 8, 9] rfl (by decide) (og_p h)
  have cut_40 : ∀ (v1 : Int32) (v2 : Int32) (f_bears : (Nat → Int32)) (f_borneBy : (Nat → Int32)) (f_due : (Nat → Int32)) (f_gone : (Nat → Int32)) (f_sunk : (Nat → Int32)) (f_times : (Nat → Int32)) (f_whoBore : (Nat → Int32)) (x_t_day : Int32) (x_t_reason : Int32), m_X8_log_40 f_may f_pad x_t_signs x_t_asked v1 v2 f_bears f_borneBy f_due f_gone f_sunk f_times f_whoBore x_t_day x_t_reason = some res → WW p l e (headSpec wsX8_log ({ frames := 3, cells := 0, slots := 0, locals := 70 } : Room)).room s m args below meth c D A 4 0 0 Q [(a_t, .inr (8, [.ref a_may, .ref b_voyage, .ref b_lucky, .ref b_worths, .ref b_ranks, .int x_t_signs, .ref a_pad, .int x_t_day, .int x_t_reason, .ref a_bears, .ref a_due, .ref a_borneBy, .ref a_gone, .ref a_sunk, .ref a_times, .int x_t_asked, .ref a_whoBore, .ref b_gives, .ref b_best, .ref b_holds, .ref b_refused, .ref b_sums, .ref b_image, .ref b_isKept])), (a_bears, .inl (cI, 6, .inl f_bears)), (a_borneBy, .inl (cI, 5, .inl f_borneBy)), (a_due, .inl (cI, 5, .inl f_due)), (a_gone, .inl (cZ, 5, .inl f_gone)), (a_may, .inl (cI, 6, .inl f_may)), (a_pad, .inl (cI, 48, .inl f_pad)), (a_sunk, .inl (cZ, 6, .inl f_sunk)), (a_times, .inl (cI, 5, .inl f_times)), (a_whoBore, .inl (cI, 5, .inl f_whoBore))] [(0, .ref a_t), (1, .int v1), (2, .int v2)] [] 40 := by
    intro v1 v2 f_bears f_borneBy f_due f_gone f_sunk f_times f_whoBore x_t_day x_t_reason h
    replace h : ((m_X8_log_45 f_may f_pad x_t_signs x_t_asked v1 v2 1 f_bears f_borneBy f_due f_gone f_sunk f_times f_whoBore x_t_day x_t_reason) : Option (Int32 × ((Nat → Int32) × (Nat → Int32) × (Nat → Int32) × (Nat → Int32) × (Nat → Int32) × (Nat → Int32) × (Nat → Int32) × Int32 × Int32))) = some res := h
    refine ww_iconst B dX8_log_40 (v := 1) (by decide) ?_
    refine ww_goto B 45 dX8_log_41 (by decide) ?_
    exact cut_45 _ _ _ _ _ _ _ _ _ _ _ _ h
  have cut_44 : ∀ (v1 : Int32) (v2 : Int32) (f_bears : (Nat → Int32)) (f_borneBy : (Nat → Int32)) (f_due : (Nat → Int32)) (f_gone : (Nat → Int32)) (f_sunk : (Nat → Int32)) (f_times : (Nat → Int32)) (f_whoBore : (Nat → Int32)) (x_t_day : Int32) (x_t_reason : Int32), m_X8_log_44 f_may f_pad x_t_signs x_t_asked v1 v2 f_bears f_borneBy f_due f_gone f_sunk f_times f_whoBore x_t_day x_t_reason = some res → WW p l e (headSpec wsX8_log ({ frames := 3, cells := 0, slots := 0, locals := 70 } : Room)).room s m args below meth c D A 4 0 0 Q [(a_t, .inr (8, [.ref a_may, .ref b_voyage, .ref b_lucky, .ref b_worths, .ref b_ranks, .int x_t_signs, .ref a_pad, .int x_t_day, .int x_t_reason, .ref a_bears, .ref a_due, .ref a_borneBy, .ref a_gone, .ref a_sunk, .ref a_times, .int x_t_asked, .ref a_whoBore, .ref b_gives, .ref b_best, .ref b_holds, .ref b_refused, .ref b_sums, .ref b_image, .ref b_isKept])), (a_bears, .inl (cI, 6, .inl f_bears)), (a_borneBy, .inl (cI, 5, .inl f_borneBy)), (a_due, .inl (cI, 5, .inl f_due)), (a_gone, .inl (cZ, 5, .inl f_gone)), (a_may, .inl (cI, 6, .inl f_may)), (a_pad, .inl (cI, 48, .inl f_pad)), (a_sunk, .inl (cZ, 6, .inl f_sunk)), (a_times, .inl (cI, 5, .inl f_times)), (a_whoBore, .inl (cI, 5, .inl f_whoBore))] [(0, .ref a_t), (1, .int v1), (2, .int v2)] [] 44 := by
    intro v1 v2 f_bears f_borneBy f_due f_gone f_sunk f_times f_whoBore x_t_day x_t_reason h
    replace h : ((m_X8_log_45 f_may f_pad x_t_signs x_t_asked v1 v2 0 f_bears f_borneBy f_due f_gone f_sunk f_times f_whoBore x_t_day x_t_reason) : Option (Int32 × ((Nat → Int32) × (Nat → Int32) × (Nat → Int32) × (Nat → Int32) × (Nat → Int32) × (Nat → Int32) × (Nat → Int32) × Int32 × Int32))) = some res := h
    refine ww_iconst B dX8_log_44 (v := 0) (by decide) ?_
    exact cut_45 _ _ _ _ _ _ _ _ _ _ _ _ h
  refine ww_iload_n B dX8_log_0 1 rfl ?_
  refine ww_bipush B dX8_log_1 (v := 10) (by decide) ?_
  refine ww_irem B dX8_log_3 (by decide) ?_
  refine ww_topi (fun v2_4 ev2_4 => ?_)
  replace h := og_l ev2_4 h
  refine ww_istore_n B dX8_log_4 (lv' := [(2, .int v2_4), (0, .ref a_t), (1, .int v1)]) (by decide) rfl ?_
  refine ww_iload_n B dX8_log_5 2 rfl ?_
  refine ww_if_eq B 40 dX8_log_6 (by decide) (fun c_6 => ?_) (fun c_6 => ?_)
  · replace h := og_t c_6 h
    refine ww_lsel (lv' := [(0, .ref a_t), (1, .int v1), (2, .int v2_4)]) [1, 2, 0] rfl ?_
    exact cut_40 _ _ _ _ _ _ _ _ _ _ _ h
  · replace h := og_f c_6 h
    refine ww_iload_n B dX8_log_9 2 rfl ?_
    refine ww_bipush B dX8_log_10 (v := 10) (by decide) ?_
    refine ww_bipush B dX8_log_12 (v := 15) (by decide) ?_
    obtain ⟨q_14, hq_14, h⟩ := og_b h
    refine ww_ci0 B (k' := 0) (n' := 0) rfl rfl [] [0, 1, 2, 3, 4, 5, 6, 7, 8, 9] (wr := [(a_t, .inr (8, [.ref a_may, .ref b_voyage, .ref b_lucky, .ref b_worths, .ref b_ranks, .int x_t_signs, .ref a_pad, .int x_t_day, .int x_t_reason, .ref a_bears, .ref a_due, .ref a_borneBy, .ref a_gone, .ref a_sunk, .ref a_times, .int x_t_asked, .ref a_whoBore, .ref b_gives, .ref b_best, .ref b_holds, .ref b_refused, .ref b_sums, .ref b_image, .ref b_isKept])), (a_bears, .inl (cI, 6, .inl f_bears)), (a_borneBy, .inl (cI, 5, .inl f_borneBy)), (a_due, .inl (cI, 5, .inl f_due)), (a_gone, .inl (cZ, 5, .inl f_gone)), (a_may, .inl (cI, 6, .inl f_may)), (a_pad, .inl (cI, 48, .inl f_pad)), (a_sunk, .inl (cZ, 6, .inl f_sunk)), (a_times, .inl (cI, 5, .inl f_times)), (a_whoBore, .inl (cI, 5, .inl f_whoBore))]) (st := []) rfl rfl (by decide) (rr_S B (c_X8_in l D cI cZ v1 10 15 hq_14) gX8_log_X8_in rfl rfl rfl (N := 3) rfl (by decide +kernel) ⟨Nat.le_of_ble_eq_true rfl, Nat.le_of_ble_eq_true rfl⟩ rfl dX8_log_14 (Nat.le_of_ble_eq_true rfl) ⟨Nat.le_of_ble_eq_true rfl, Nat.le_of_ble_eq_true rfl⟩) (ws' := [(a_t, .inr (8, [.ref a_may, .ref b_voyage, .ref b_lucky, .ref b_worths, .ref b_ranks, .int x_t_signs, .ref a_pad, .int x_t_day, .int x_t_reason, .ref a_bears, .ref a_due, .ref a_borneBy, .ref a_gone, .ref a_sunk, .ref a_times, .int x_t_asked, .ref a_whoBore, .ref b_gives, .ref b_best, .ref b_holds, .ref b_refused, .ref b_sums, .ref b_image, .ref b_isKept])), (a_bears, .inl (cI, 6, .inl f_bears)), (a_borneBy, .inl (cI, 5, .inl f_borneBy)), (a_due, .inl (cI, 5, .inl f_due)), (a_gone, .inl (cZ, 5, .inl f_gone)), (a_may, .inl (cI, 6, .inl f_may)), (a_pad, .inl (cI, 48, .inl f_pad)), (a_sunk, .inl (cZ, 6, .inl f_sunk)), (a_times, .inl (cI, 5, .inl f_times)), (a_whoBore, .inl (cI, 5, .inl f_whoBore))]) rfl ?_
    refine ww_if_ne B 40 dX8_log_17 (by decide) (fun c_17 => ?_) (fun c_17 => ?_)
    · replace h := og_f c_17 h
      refine ww_lsel (lv' := [(0, .ref a_t), (1, .int v1), (2, .int v2_4)]) [1, 2, 0] rfl ?_
      exact cut_40 _ _ _ _ _ _ _ _ _ _ _ h
    · replace h := og_t c_17 h
      refine ww_iload_n B dX8_log_20 2 rfl ?_
      refine ww_bipush B dX8_log_21 (v := 20) (by decide) ?_
      refine ww_bipush B dX8_log_23 (v := 49) (by decide) ?_
      obtain ⟨q_25, hq_25, h⟩ := og_b h
      refine ww_ci0 B (k' := 0) (n' := 0) rfl rfl [] [0, 1, 2, 3, 4, 5, 6, 7, 8, 9] (wr := [(a_t, .inr (8, [.ref a_may, .ref b_voyage, .ref b_lucky, .ref b_worths, .ref b_ranks, .int x_t_signs, .ref a_pad, .int x_t_day, .int x_t_reason, .ref a_bears, .ref a_due, .ref a_borneBy, .ref a_gone, .ref a_sunk, .ref a_times, .int x_t_asked, .ref a_whoBore, .ref b_gives, .ref b_best, .ref b_holds, .ref b_refused, .ref b_sums, .ref b_image, .ref b_isKept])), (a_bears, .inl (cI, 6, .inl f_bears)), (a_borneBy, .inl (cI, 5, .inl f_borneBy)), (a_due, .inl (cI, 5, .inl f_due)), (a_gone, .inl (cZ, 5, .inl f_gone)), (a_may, .inl (cI, 6, .inl f_may)), (a_pad, .inl (cI, 48, .inl f_pad)), (a_sunk, .inl (cZ, 6, .inl f_sunk)), (a_times, .inl (cI, 5, .inl f_times)), (a_whoBore, .inl (cI, 5, .inl f_whoBore))]) (st := []) rfl rfl (by decide) (rr_S B (c_X8_in l D cI cZ v1 20 49 hq_25) gX8_log_X8_in rfl rfl rfl (N := 3) rfl (by decide +kernel) ⟨Nat.le_of_ble_eq_true rfl, Nat.le_of_ble_eq_true rfl⟩ rfl dX8_log_25 (Nat.le_of_ble_eq_true rfl) ⟨Nat.le_of_ble_eq_true rfl, Nat.le_of_ble_eq_true rfl⟩) (ws' := [(a_t, .inr (8, [.ref a_may, .ref b_voyage, .ref b_lucky, .ref b_worths, .ref b_ranks, .int x_t_signs, .ref a_pad, .int x_t_day, .int x_t_reason, .ref a_bears, .ref a_due, .ref a_borneBy, .ref a_gone, .ref a_sunk, .ref a_times, .int x_t_asked, .ref a_whoBore, .ref b_gives, .ref b_best, .ref b_holds, .ref b_refused, .ref b_sums, .ref b_image, .ref b_isKept])), (a_bears, .inl (cI, 6, .inl f_bears)), (a_borneBy, .inl (cI, 5, .inl f_borneBy)), (a_due, .inl (cI, 5, .inl f_due)), (a_gone, .inl (cZ, 5, .inl f_gone)), (a_may, .inl (cI, 6, .inl f_may)), (a_pad, .inl (cI, 48, .inl f_pad)), (a_sunk, .inl (cZ, 6, .inl f_sunk)), (a_times, .inl (cI, 5, .inl f_times)), (a_whoBore, .inl (cI, 5, .inl f_whoBore))]) rfl ?_
      refine ww_if_eq B 44 dX8_log_28 (by decide) (fun c_28 => ?_) (fun c_28 => ?_)
      · replace h := og_t c_28 h
        refine ww_lsel (lv' := [(0, .ref a_t), (1, .int v1), (2, .int v2_4)]) [1, 2, 0] rfl ?_
        exact cut_44 _ _ _ _ _ _ _ _ _ _ _ h
      · replace h := og_f c_28 h
        refine ww_iload_n B dX8_log_31 0 rfl ?_
        refine ww_iconst B dX8_log_32 (v := 0) (by decide) ?_
        refine ww_iconst B dX8_log_33 (v := 4) (by decide) ?_
        obtain ⟨q_34, hq_34, h⟩ := og_b h
        refine ww_ci0 B (k' := 0) (n' := 0) rfl rfl [] [0, 1, 2, 3, 4, 5, 6, 7, 8, 9] (wr := [(a_t, .inr (8, [.ref a_may, .ref b_voyage, .ref b_lucky, .ref b_worths, .ref b_ranks, .int x_t_signs, .ref a_pad, .int x_t_day, .int x_t_reason, .ref a_bears, .ref a_due, .ref a_borneBy, .ref a_gone, .ref a_sunk, .ref a_times, .int x_t_asked, .ref a_whoBore, .ref b_gives, .ref b_best, .ref b_holds, .ref b_refused, .ref b_sums, .ref b_image, .ref b_isKept])), (a_bears, .inl (cI, 6, .inl f_bears)), (a_borneBy, .inl (cI, 5, .inl f_borneBy)), (a_due, .inl (cI, 5, .inl f_due)), (a_gone, .inl (cZ, 5, .inl f_gone)), (a_may, .inl (cI, 6, .inl f_may)), (a_pad, .inl (cI, 48, .inl f_pad)), (a_sunk, .inl (cZ, 6, .inl f_sunk)), (a_times, .inl (cI, 5, .inl f_times)), (a_whoBore, .inl (cI, 5, .inl f_whoBore))]) (st := []) rfl rfl (by decide) (rr_S B (c_X8_in l D cI cZ v2_4 0 4 hq_34) gX8_log_X8_in rfl rfl rfl (N := 3) rfl (by decide +kernel) ⟨Nat.le_of_ble_eq_true rfl, Nat.le_of_ble_eq_true rfl⟩ rfl dX8_log_34 (Nat.le_of_ble_eq_true rfl) ⟨Nat.le_of_ble_eq_true rfl, Nat.le_of_ble_eq_true rfl⟩) (ws' := [(a_t, .inr (8, [.ref a_may, .ref b_voyage, .ref b_lucky, .ref b_worths, .ref b_ranks, .int x_t_signs, .ref a_pad, .int x_t_day, .int x_t_reason, .ref a_bears, .ref a_due, .ref a_borneBy, .ref a_gone, .ref a_sunk, .ref a_times, .int x_t_asked, .ref a_whoBore, .ref b_gives, .ref b_best, .ref b_holds, .ref b_refused, .ref b_sums, .ref b_image, .ref b_isKept])), (a_bears, .inl (cI, 6, .inl f_bears)), (a_borneBy, .inl (cI, 5, .inl f_borneBy)), (a_due, .inl (cI, 5, .inl f_due)), (a_gone, .inl (cZ, 5, .inl f_gone)), (a_may, .inl (cI, 6, .inl f_may)), (a_pad, .inl (cI, 48, .inl f_pad)), (a_sunk, .inl (cZ, 6, .inl f_sunk)), (a_times, .inl (cI, 5, .inl f_times)), (a_whoBore, .inl (cI, 5, .inl f_whoBore))]) rfl ?_
        refine ww_if_eq B 44 dX8_log_37 (by decide) (fun c_37 => ?_) (fun c_37 => ?_)
        · replace h := og_t c_37 h
          refine ww_lsel (lv' := [(0, .ref a_t), (1, .int v1), (2, .int v2_4)]) [1, 2, 0] rfl ?_
          exact cut_44 _ _ _ _ _ _ _ _ _ _ _ h
        · replace h := og_f c_37 h
          refine ww_lsel (lv' := [(0, .ref a_t), (1, .int v1), (2, .int v2_4)]) [1, 2, 0] rfl ?_
          exact cut_40 _ _ _ _ _ _ _ _ _ _ _ h
noncomputable def m_X8_luck (f_lucky : (Nat → Int32)) (v1 : Int32) (v2 : Int32) : Option (Int32 × ((Nat → Int32))) := ogb (m_X8_isName v1) (fun q_1 => if q_1 = 0 then (some ((-1), f_lucky)) else (ogb (m_X8_in v2 0 10) (fun q_13 => if q_13 = 0 then (some ((-2), f_lucky)) else (ogi v1 5 (ogl (f_lucky (Int32.toNatClampNeg v1)) (fun (v3_28 : Int32) => ogi v1 5 (some (v3_28, (upd f_lucky (Int32.toNatClampNeg v1) v2)))))))))
set_option maxHeartbeats 4000000 in
set_option maxRecDepth 100000 in
theorem c_X8_luck (l : Launch) (D : va_G) (cI cZ : ClassId) (a_t a_lucky b_may b_voyage b_worths b_ranks b_pad b_bears b_due b_borneBy b_gone b_sunk b_times b_whoBore b_gives b_best b_holds b_refused b_sums b_image b_isKept : Nat) (f_lucky : (Nat → Int32)) (x_t_signs : Int32) (x_t_day : Int32) (x_t_reason : Int32) (x_t_asked : Int32) (v1 : Int32) (v2 : Int32) {res : (Int32 × ((Nat → Int32)))} (h : m_X8_luck f_lucky v1 v2 = some res) : CT l yX8_luck wsX8_luck ({ frames := 2, cells := 0, slots := 0, locals := 42 } : Room) D cI cZ [.ref a_t, .int v1, .int v2] [(a_t, .inr (8, [.ref b_may, .ref b_voyage, .ref a_lucky, .ref b_worths, .ref b_ranks, .int x_t_signs, .ref b_pad, .int x_t_day, .int x_t_reason, .ref b_bears, .ref b_due, .ref b_borneBy, .ref b_gone, .ref b_sunk, .ref b_times, .int x_t_asked, .ref b_whoBore, .ref b_gives, .ref b_best, .ref b_holds, .ref b_refused, .ref b_sums, .ref b_image, .ref b_isKept])), (a_lucky, .inl (cI, 5, .inl f_lucky))] (QI D [(a_t, .inr (8, [.ref b_may, .ref b_voyage, .ref a_lucky, .ref b_worths, .ref b_ranks, .int x_t_signs, .ref b_pad, .int x_t_day, .int x_t_reason, .ref b_bears, .ref b_due, .ref b_borneBy, .ref b_gone, .ref b_sunk, .ref b_times, .int x_t_asked, .ref b_whoBore, .ref b_gives, .ref b_best, .ref b_holds, .ref b_refused, .ref b_sums, .ref b_image, .ref b_isKept])), (a_lucky, .inl (cI, 5, .inl f_lucky))] (fun (r : Int32) (u : (Nat → Int32)) => r = res.1 ∧ u = res.2) (fun (u : (Nat → Int32)) => [(a_t, .inr (8, [.ref b_may, .ref b_voyage, .ref a_lucky, .ref b_worths, .ref b_ranks, .int x_t_signs, .ref b_pad, .int x_t_day, .int x_t_reason, .ref b_bears, .ref b_due, .ref b_borneBy, .ref b_gone, .ref b_sunk, .ref b_times, .int x_t_asked, .ref b_whoBore, .ref b_gives, .ref b_best, .ref b_holds, .ref b_refused, .ref b_sums, .ref b_image, .ref b_isKept])), (a_lucky, .inl (cI, 5, .inl u))])) 0 0 := by
  have h : (ogb (m_X8_isName v1) (fun q_1 => if q_1 = 0 then (some ((-1), f_lucky)) else (ogb (m_X8_in v2 0 10) (fun q_13 => if q_13 = 0 then (some ((-2), f_lucky)) else (ogi v1 5 (ogl (f_lucky (Int32.toNatClampNeg v1)) (fun (v3_28 : Int32) => ogi v1 5 (some (v3_28, (upd f_lucky (Int32.toNatClampNeg v1) v2))))))))) : Option (Int32 × ((Nat → Int32)))) = some res := h
  refine ct_entry (cc := cX8_luck) (nl := 4) (ret := (some .int)) (own := RX8) (lv0 := [(0, .ref a_t), (1, .int v1), (2, .int v2)]) (by decide) rfl rfl (Nat.le_of_ble_eq_true rfl) rfl ?_
  intro p e s m args below meth c A Q hA hQ hr hnm B
  have iX8 : ∀ w ∈ wsX80, w ∈ wsX8_luck := by decide +kernel
  refine ww_iload_n B dX8_luck_0 1 rfl ?_
  obtain ⟨q_1, hq_1, h⟩ := og_b h
  refine ww_ci0 B (k' := 0) (n' := 0) rfl rfl [] [0, 1] (wr := [(a_t, .inr (8, [.ref b_may, .ref b_voyage, .ref a_lucky, .ref b_worths, .ref b_ranks, .int x_t_signs, .ref b_pad, .int x_t_day, .int x_t_reason, .ref b_bears, .ref b_due, .ref b_borneBy, .ref b_gone, .ref b_sunk, .ref b_times, .int x_t_asked, .ref b_whoBore, .ref b_gives, .ref b_best, .ref b_holds, .ref b_refused, .ref b_sums, .ref b_image, .ref b_isKept])), (a_lucky, .inl (cI, 5, .inl f_lucky))]) (st := []) rfl rfl (by decide) (rr_S B (c_X8_isName l D cI cZ v1 hq_1) gX8_luck_X8_isName rfl rfl rfl (N := 1) rfl (by decide +kernel) ⟨Nat.le_of_ble_eq_true rfl, Nat.le_of_ble_eq_true rfl⟩ rfl dX8_luck_1 (Nat.le_of_ble_eq_true rfl) ⟨Nat.le_of_ble_eq_true rfl, Nat.le_of_ble_eq_true rfl⟩) (ws' := [(a_t, .inr (8, [.ref b_may, .ref b_voyage, .ref a_lucky, .ref b_worths, .ref b_ranks, .int x_t_signs, .ref b_pad, .int x_t_day, .int x_t_reason, .ref b_bears, .ref b_due, .ref b_borneBy, .ref b_gone, .ref b_sunk, .ref b_times, .int x_t_asked, .ref b_whoBore, .ref b_gives, .ref b_best, .ref b_holds, .ref b_refused, .ref b_sums, .ref b_image, .ref b_isKept])), (a_lucky, .inl (cI, 5, .inl f_lucky))]) rfl ?_
  refine ww_if_ne B 9 dX8_luck_4 (by decide) (fun c_4 => ?_) (fun c_4 => ?_)
  · replace h := og_f c_4 h
    refine ww_iload_n B dX8_luck_9 2 rfl ?_
    refine ww_iconst B dX8_luck_10 (v := 0) (by decide) ?_
    refine ww_bipush B dX8_luck_11 (v := 10) (by decide) ?_
    obtain ⟨q_13, hq_13, h⟩ := og_b h
    refine ww_ci0 B (k' := 0) (n' := 0) rfl rfl [] [0, 1] (wr := [(a_t, .inr (8, [.ref b_may, .ref b_voyage, .ref a_lucky, .ref b_worths, .ref b_ranks, .int x_t_signs, .ref b_pad, .int x_t_day, .int x_t_reason, .ref b_bears, .ref b_due, .ref b_borneBy, .ref b_gone, .ref b_sunk, .ref b_times, .int x_t_asked, .ref b_whoBore, .ref b_gives, .ref b_best, .ref b_holds, .ref b_refused, .ref b_sums, .ref b_image, .ref b_isKept])), (a_lucky, .inl (cI, 5, .inl f_lucky))]) (st := []) rfl rfl (by decide) (rr_S B (c_X8_in l D cI cZ v2 0 10 hq_13) gX8_luck_X8_in rfl rfl rfl (N := 3) rfl (by decide +kernel) ⟨Nat.le_of_ble_eq_true rfl, Nat.le_of_ble_eq_true rfl⟩ rfl dX8_luck_13 (Nat.le_of_ble_eq_true rfl) ⟨Nat.le_of_ble_eq_true rfl, Nat.le_of_ble_eq_true rfl⟩) (ws' := [(a_t, .inr (8, [.ref b_may, .ref b_voyage, .ref a_lucky, .ref b_worths, .ref b_ranks, .int x_t_signs, .ref b_pad, .int x_t_day, .int x_t_reason, .ref b_bears, .ref b_due, .ref b_borneBy, .ref b_gone, .ref b_sunk, .ref b_times, .int x_t_asked, .ref b_whoBore, .ref b_gives, .ref b_best, .ref b_holds, .ref b_refused, .ref b_sums, .ref b_image, .ref b_isKept])), (a_lucky, .inl (cI, 5, .inl f_lucky))]) rfl ?_
    refine ww_if_ne B 22 dX8_luck_16 (by decide) (fun c_16 => ?_) (fun c_16 => ?_)
    · replace h := og_f c_16 h
      refine ww_aload_n B dX8_luck_22 0 rfl ?_
      refine ww_get (ci := 8) (T := TX8) (C := RX8) (N := 24) B iX8 0 rfl rfl 2 (by decide) (by decide +kernel) rfl rfl dX8_luck_23 ?_
      refine ww_iload_n B dX8_luck_26 1 rfl ?_
      obtain ⟨i_27, h⟩ := og_i h
      refine ww_iald B 1 rfl i_27 dX8_luck_27 ?_
      refine ww_topi (fun v3_28 ev3_28 => ?_)
      replace h := og_l ev3_28 h
      refine ww_istore_n B dX8_luck_28 (lv' := [(3, .int v3_28), (0, .ref a_t), (1, .int v1), (2, .int v2)]) (by decide) rfl ?_
      refine ww_aload_n B dX8_luck_29 1 rfl ?_
      refine ww_get (ci := 8) (T := TX8) (C := RX8) (N := 24) B iX8 0 rfl rfl 2 (by decide) (by decide +kernel) rfl rfl dX8_luck_30 ?_
      refine ww_iload_n B dX8_luck_33 2 rfl ?_
      refine ww_iload_n B dX8_luck_34 3 rfl ?_
      obtain ⟨i_35, h⟩ := og_i h
      refine ww_iast B 1 rfl i_35 dX8_luck_35 (ws' := [(a_t, .inr (8, [.ref b_may, .ref b_voyage, .ref a_lucky, .ref b_worths, .ref b_ranks, .int x_t_signs, .ref b_pad, .int x_t_day, .int x_t_reason, .ref b_bears, .ref b_due, .ref b_borneBy, .ref b_gone, .ref b_sunk, .ref b_times, .int x_t_asked, .ref b_whoBore, .ref b_gives, .ref b_best, .ref b_holds, .ref b_refused, .ref b_sums, .ref b_image, .ref b_isKept])), (a_lucky, .inl (cI, 5, .inl (upd f_lucky (Int32.toNatClampNeg v1) v2)))]) rfl ?_
      refine ww_iload_n B dX8_luck_36 0 rfl ?_
      exact ww_iret B hA hQ hr dX8_luck_37 (upd f_lucky (Int32.toNatClampNeg v1) v2) [0, 1] rfl (by decide) (og_p h)
    · replace h := og_t c_16 h
      refine ww_bipush B dX8_luck_19 (v := (-2)) (by decide) ?_
      exact ww_iret B hA hQ hr dX8_luck_21 f_lucky [0, 1] rfl (by decide) (og_p h)
  · replace h := og_t c_4 h
    refine ww_iconst B dX8_luck_7 (v := (-1)) (by decide) ?_
    exact ww_iret B hA hQ hr dX8_luck_8 f_lucky [0, 1] rfl (by decide) (og_p h)
noncomputable def m_X8_sailing_22 (k4 : Int32 → Int32 → Option Int32) (N_r0 : Nat) (f_r0 : (Nat → Int32)) (v3 : Int32) (s0 : Int32) (s1 : Int32) : Option Int32 := ogl (s0 + s1) (fun (v2_23 : Int32) => ogl (v3 + 1) (fun (v3_24 : Int32) => (k4 v2_23 v3_24)))
noncomputable def m_X8_sailing_4b (k4 : Int32 → Int32 → Option Int32) (N_r0 : Nat) (f_r0 : (Nat → Int32)) (v2 : Int32) (v3 : Int32) : Option Int32 := if 6 ≤ v3 then (some v2) else (ogi v3 N_r0 (if (f_r0 (Int32.toNatClampNeg v3)) < 0 then ((m_X8_sailing_22 k4 N_r0 f_r0 v3 v2 0)) else ((m_X8_sailing_22 k4 N_r0 f_r0 v3 v2 1))))
noncomputable def m_X8_sailing_4 (N_r0 : Nat) (f_r0 : (Nat → Int32)) (fuel : Nat) : Int32 → Int32 → Option Int32 := Nat.rec (fun _ _ => none) (fun _ k4 => m_X8_sailing_4b k4 N_r0 f_r0) fuel
noncomputable def m_X8_sailing (N_r0 : Nat) (f_r0 : (Nat → Int32)) : Option Int32 := (m_X8_sailing_4 N_r0 f_r0 1000000 0 0)
set_option maxHeartbeats 4000000 in
set_option maxRecDepth 100000 in
theorem c_X8_sailing (l : Launch) (D : va_G) (cI cZ : ClassId) (a_t a_r0 b_may b_voyage b_lucky b_worths b_ranks b_pad b_bears b_due b_borneBy b_gone b_sunk b_times b_whoBore b_gives b_best b_holds b_refused b_sums b_image b_isKept : Nat) (N_r0 : Nat) (f_r0 : (Nat → Int32)) (x_t_signs : Int32) (x_t_day : Int32) (x_t_reason : Int32) (x_t_asked : Int32) {res : Int32} (h : m_X8_sailing N_r0 f_r0 = some res) : CT l yX8_sailing wsX8_sailing ({ frames := 0, cells := 0, slots := 0, locals := 0 } : Room) D cI cZ [.ref a_t, .ref a_r0] [(a_t, .inr (8, [.ref b_may, .ref b_voyage, .ref b_lucky, .ref b_worths, .ref b_ranks, .int x_t_signs, .ref b_pad, .int x_t_day, .int x_t_reason, .ref b_bears, .ref b_due, .ref b_borneBy, .ref b_gone, .ref b_sunk, .ref b_times, .int x_t_asked, .ref b_whoBore, .ref b_gives, .ref b_best, .ref b_holds, .ref b_refused, .ref b_sums, .ref b_image, .ref b_isKept])), (a_r0, .inl (cI, N_r0, .inl f_r0))] (QI D [(a_t, .inr (8, [.ref b_may, .ref b_voyage, .ref b_lucky, .ref b_worths, .ref b_ranks, .int x_t_signs, .ref b_pad, .int x_t_day, .int x_t_reason, .ref b_bears, .ref b_due, .ref b_borneBy, .ref b_gone, .ref b_sunk, .ref b_times, .int x_t_asked, .ref b_whoBore, .ref b_gives, .ref b_best, .ref b_holds, .ref b_refused, .ref b_sums, .ref b_image, .ref b_isKept])), (a_r0, .inl (cI, N_r0, .inl f_r0))] (fun (r : Int32) (_ : Unit) => r = res) (fun (u : Unit) => [(a_t, .inr (8, [.ref b_may, .ref b_voyage, .ref b_lucky, .ref b_worths, .ref b_ranks, .int x_t_signs, .ref b_pad, .int x_t_day, .int x_t_reason, .ref b_bears, .ref b_due, .ref b_borneBy, .ref b_gone, .ref b_sunk, .ref b_times, .int x_t_asked, .ref b_whoBore, .ref b_gives, .ref b_best, .ref b_holds, .ref b_refused, .ref b_sums, .ref b_image, .ref b_isKept])), (a_r0, .inl (cI, N_r0, .inl f_r0))])) 0 0 := by
  have h : ((m_X8_sailing_4 N_r0 f_r0 1000000 0 0) : Option Int32) = some res := h
  refine ct_entry (cc := cX8_sailing) (nl := 4) (ret := (some .int)) (own := RX8) (lv0 := [(0, .ref a_t), (1, .ref a_r0)]) (by decide) rfl rfl (Nat.le_of_ble_eq_true rfl) rfl ?_
  intro p e s m args below meth c A Q hA hQ hr hnm B
  have cut_4 : ∀ (fuel : Nat) (v2 : Int32) (v3 : Int32), m_X8_sailing_4 N_r0 f_r0 fuel v2 v3 = some res → WW p l e (headSpec wsX8_sailing ({ frames := 0, cells := 0, slots := 0, locals := 0 } : Room)).room s m args below meth c D A 4 0 0 Q [(a_t, .inr (8, [.ref b_may, .ref b_voyage, .ref b_lucky, .ref b_worths, .ref b_ranks, .int x_t_signs, .ref b_pad, .int x_t_day, .int x_t_reason, .ref b_bears, .ref b_due, .ref b_borneBy, .ref b_gone, .ref b_sunk, .ref b_times, .int x_t_asked, .ref b_whoBore, .ref b_gives, .ref b_best, .ref b_holds, .ref b_refused, .ref b_sums, .ref b_image, .ref b_isKept])), (a_r0, .inl (cI, N_r0, .inl f_r0))] [(1, .ref a_r0), (2, .int v2), (3, .int v3)] [] 4 := by
    intro fuel_4
    induction fuel_4 with
    | zero => intro v2 v3 h; exact og_0 h
    | succ fuel_4 ih_4 =>
      have cut_22 : ∀ (v3 : Int32) (s0 : Int32) (s1 : Int32), m_X8_sailing_22 (m_X8_sailing_4 N_r0 f_r0 fuel_4) N_r0 f_r0 v3 s0 s1 = some res → WW p l e (headSpec wsX8_sailing ({ frames := 0, cells := 0, slots := 0, locals := 0 } : Room)).room s m args below meth c D A 4 0 0 Q [(a_t, .inr (8, [.ref b_may, .ref b_voyage, .ref b_lucky, .ref b_worths, .ref b_ranks, .int x_t_signs, .ref b_pad, .int x_t_day, .int x_t_reason, .ref b_bears, .ref b_due, .ref b_borneBy, .ref b_gone, .ref b_sunk, .ref b_times, .int x_t_asked, .ref b_whoBore, .ref b_gives, .ref b_best, .ref b_holds, .ref b_refused, .ref b_sums, .ref b_image, .ref b_isKept])), (a_r0, .inl (cI, N_r0, .inl f_r0))] [(1, .ref a_r0), (3, .int v3)] [.int s1, .int s0] 22 := by
        intro v3 s0 s1 h
        replace h : (ogl (s0 + s1) (fun (v2_23 : Int32) => ogl (v3 + 1) (fun (v3_24 : Int32) => ((m_X8_sailing_4 N_r0 f_r0 fuel_4) v2_23 v3_24))) : Option Int32) = some res := h
        refine ww_iadd B dX8_sailing_22 ?_
        refine ww_topi (fun v2_23 ev2_23 => ?_)
        replace h := og_l ev2_23 h
        refine ww_istore_n B dX8_sailing_23 (lv' := [(2, .int v2_23), (1, .ref a_r0), (3, .int v3)]) (by decide) rfl ?_
        obtain ⟨v3_24, ev3_24⟩ : ∃ y : Int32, y = (v3 + 1) := ⟨_, rfl⟩
        refine ww_iinc B dX8_sailing_24 2 rfl (v := v3_24) (by rw [ev3_24]; rfl) (by decide) (lv' := [(3, .int v3_24), (2, .int v2_23), (1, .ref a_r0)]) rfl ?_
        replace h := og_l ev3_24 h
        refine ww_goto B 4 dX8_sailing_27 (by decide) ?_
        refine ww_lsel (lv' := [(1, .ref a_r0), (2, .int v2_23), (3, .int v3_24)]) [2, 1, 0] rfl ?_
        exact ih_4 _ _ h
      intro v2 v3 h
      replace h : (if 6 ≤ v3 then (some v2) else (ogi v3 N_r0 (if (f_r0 (Int32.toNatClampNeg v3)) < 0 then ((m_X8_sailing_22 (m_X8_sailing_4 N_r0 f_r0 fuel_4) N_r0 f_r0 v3 v2 0)) else ((m_X8_sailing_22 (m_X8_sailing_4 N_r0 f_r0 fuel_4) N_r0 f_r0 v3 v2 1)))) : Option Int32) = some res := h
      refine ww_iload_n B dX8_sailing_4 2 rfl ?_
      refine ww_bipush B dX8_sailing_5 (v := 6) (by decide) ?_
      refine ww_icmp_ge B 30 dX8_sailing_7 (by decide) (fun c_7 => ?_) (fun c_7 => ?_)
      · replace h := og_t c_7 h
        refine ww_iload_n B dX8_sailing_30 1 rfl ?_
        exact ww_iret B hA hQ hr dX8_sailing_31 () [0, 1] rfl (by decide) (og_s h).symm
      · replace h := og_f c_7 h
        refine ww_iload_n B dX8_sailing_10 1 rfl ?_
        refine ww_aload_n B dX8_sailing_11 0 rfl ?_
        refine ww_iload_n B dX8_sailing_12 2 rfl ?_
        obtain ⟨i_13, h⟩ := og_i h
        refine ww_iald B 1 rfl i_13 dX8_sailing_13 ?_
        refine ww_if_lt B 21 dX8_sailing_14 (by decide) (fun c_14 => ?_) (fun c_14 => ?_)
        · replace h := og_t c_14 h
          refine ww_iconst B dX8_sailing_21 (v := 0) (by decide) ?_
          refine ww_lsel (lv' := [(1, .ref a_r0), (3, .int v3)]) [0, 2] rfl ?_
          exact cut_22 _ _ _ h
        · replace h := og_f c_14 h
          refine ww_iconst B dX8_sailing_17 (v := 1) (by decide) ?_
          refine ww_goto B 22 dX8_sailing_18 (by decide) ?_
          refine ww_lsel (lv' := [(1, .ref a_r0), (3, .int v3)]) [0, 2] rfl ?_
          exact cut_22 _ _ _ h
  refine ww_iconst B dX8_sailing_0 (v := 0) (by decide) ?_
  refine ww_istore_n B dX8_sailing_1 (lv' := [(2, .int 0), (0, .ref a_t), (1, .ref a_r0)]) (by decide) rfl ?_
  refine ww_iconst B dX8_sailing_2 (v := 0) (by decide) ?_
  refine ww_istore_n B dX8_sailing_3 (lv' := [(3, .int 0), (2, .int 0), (0, .ref a_t), (1, .ref a_r0)]) (by decide) rfl ?_
  refine ww_lsel (lv' := [(1, .ref a_r0), (2, .int 0), (3, .int 0)]) [3, 1, 0] rfl ?_
  exact cut_4 _ _ _ h
noncomputable def m_X8_worthOf_33 (k4 : Int32 → Int32 → Option Int32) (N_r0 : Nat) (f_r0 : (Nat → Int32)) (f_worths : (Nat → Int32)) (v3 : Int32) (s0 : Int32) (s1 : Int32) : Option Int32 := ogl (s0 + s1) (fun (v2_34 : Int32) => ogl (v3 + 1) (fun (v3_35 : Int32) => (k4 v2_34 v3_35)))
noncomputable def m_X8_worthOf_4b (k4 : Int32 → Int32 → Option Int32) (N_r0 : Nat) (f_r0 : (Nat → Int32)) (f_worths : (Nat → Int32)) (v2 : Int32) (v3 : Int32) : Option Int32 := if 6 ≤ v3 then (some v2) else (ogi v3 N_r0 (if (f_r0 (Int32.toNatClampNeg v3)) < 0 then ((m_X8_worthOf_33 k4 N_r0 f_r0 f_worths v3 v2 0)) else (ogi v3 N_r0 (ogi ((5 * v3) + (f_r0 (Int32.toNatClampNeg v3))) 30 ((m_X8_worthOf_33 k4 N_r0 f_r0 f_worths v3 v2 (f_worths (Int32.toNatClampNeg ((5 * v3) + (f_r0 (Int32.toNatClampNeg v3)))))))))))
noncomputable def m_X8_worthOf_4 (N_r0 : Nat) (f_r0 : (Nat → Int32)) (f_worths : (Nat → Int32)) (fuel : Nat) : Int32 → Int32 → Option Int32 := Nat.rec (fun _ _ => none) (fun _ k4 => m_X8_worthOf_4b k4 N_r0 f_r0 f_worths) fuel
noncomputable def m_X8_worthOf (N_r0 : Nat) (f_r0 : (Nat → Int32)) (f_worths : (Nat → Int32)) : Option Int32 := (m_X8_worthOf_4 N_r0 f_r0 f_worths 1000000 0 0)
set_option maxHeartbeats 4000000 in
set_option maxRecDepth 100000 in
theorem c_X8_worthOf (l : Launch) (D : va_G) (cI cZ : ClassId) (a_t a_r0 a_worths b_may b_voyage b_lucky b_ranks b_pad b_bears b_due b_borneBy b_gone b_sunk b_times b_whoBore b_gives b_best b_holds b_refused b_sums b_image b_isKept : Nat) (N_r0 : Nat) (f_r0 : (Nat → Int32)) (f_worths : (Nat → Int32)) (x_t_signs : Int32) (x_t_day : Int32) (x_t_reason : Int32) (x_t_asked : Int32) {res : Int32} (h : m_X8_worthOf N_r0 f_r0 f_worths = some res) : CT l yX8_worthOf wsX8_worthOf ({ frames := 0, cells := 0, slots := 0, locals := 0 } : Room) D cI cZ [.ref a_t, .ref a_r0] [(a_t, .inr (8, [.ref b_may, .ref b_voyage, .ref b_lucky, .ref a_worths, .ref b_ranks, .int x_t_signs, .ref b_pad, .int x_t_day, .int x_t_reason, .ref b_bears, .ref b_due, .ref b_borneBy, .ref b_gone, .ref b_sunk, .ref b_times, .int x_t_asked, .ref b_whoBore, .ref b_gives, .ref b_best, .ref b_holds, .ref b_refused, .ref b_sums, .ref b_image, .ref b_isKept])), (a_r0, .inl (cI, N_r0, .inl f_r0)), (a_worths, .inl (cI, 30, .inl f_worths))] (QI D [(a_t, .inr (8, [.ref b_may, .ref b_voyage, .ref b_lucky, .ref a_worths, .ref b_ranks, .int x_t_signs, .ref b_pad, .int x_t_day, .int x_t_reason, .ref b_bears, .ref b_due, .ref b_borneBy, .ref b_gone, .ref b_sunk, .ref b_times, .int x_t_asked, .ref b_whoBore, .ref b_gives, .ref b_best, .ref b_holds, .ref b_refused, .ref b_sums, .ref b_image, .ref b_isKept])), (a_r0, .inl (cI, N_r0, .inl f_r0)), (a_worths, .inl (cI, 30, .inl f_worths))] (fun (r : Int32) (_ : Unit) => r = res) (fun (u : Unit) => [(a_t, .inr (8, [.ref b_may, .ref b_voyage, .ref b_lucky, .ref a_worths, .ref b_ranks, .int x_t_signs, .ref b_pad, .int x_t_day, .int x_t_reason, .ref b_bears, .ref b_due, .ref b_borneBy, .ref b_gone, .ref b_sunk, .ref b_times, .int x_t_asked, .ref b_whoBore, .ref b_gives, .ref b_best, .ref b_holds, .ref b_refused, .ref b_sums, .ref b_image, .ref b_isKept])), (a_r0, .inl (cI, N_r0, .inl f_r0)), (a_worths, .inl (cI, 30, .inl f_worths))])) 0 0 := by
  have h : ((m_X8_worthOf_4 N_r0 f_r0 f_worths 1000000 0 0) : Option Int32) = some res := h
  refine ct_entry (cc := cX8_worthOf) (nl := 4) (ret := (some .int)) (own := RX8) (lv0 := [(0, .ref a_t), (1, .ref a_r0)]) (by decide) rfl rfl (Nat.le_of_ble_eq_true rfl) rfl ?_
  intro p e s m args below meth c A Q hA hQ hr hnm B
  have iX8 : ∀ w ∈ wsX80, w ∈ wsX8_worthOf := by decide +kernel
  have cut_4 : ∀ (fuel : Nat) (v2 : Int32) (v3 : Int32), m_X8_worthOf_4 N_r0 f_r0 f_worths fuel v2 v3 = some res → WW p l e (headSpec wsX8_worthOf ({ frames := 0, cells := 0, slots := 0, locals := 0 } : Room)).room s m args below meth c D A 4 0 0 Q [(a_t, .inr (8, [.ref b_may, .ref b_voyage, .ref b_lucky, .ref a_worths, .ref b_ranks, .int x_t_signs, .ref b_pad, .int x_t_day, .int x_t_reason, .ref b_bears, .ref b_due, .ref b_borneBy, .ref b_gone, .ref b_sunk, .ref b_times, .int x_t_asked, .ref b_whoBore, .ref b_gives, .ref b_best, .ref b_holds, .ref b_refused, .ref b_sums, .ref b_image, .ref b_isKept])), (a_r0, .inl (cI, N_r0, .inl f_r0)), (a_worths, .inl (cI, 30, .inl f_worths))] [(0, .ref a_t), (1, .ref a_r0), (2, .int v2), (3, .int v3)] [] 4 := by
    intro fuel_4
    induction fuel_4 with
    | zero => intro v2 v3 h; exact og_0 h
    | succ fuel_4 ih_4 =>
      have cut_33 : ∀ (v3 : Int32) (s0 : Int32) (s1 : Int32), m_X8_worthOf_33 (m_X8_worthOf_4 N_r0 f_r0 f_worths fuel_4) N_r0 f_r0 f_worths v3 s0 s1 = some res → WW p l e (headSpec wsX8_worthOf ({ frames := 0, cells := 0, slots := 0, locals := 0 } : Room)).room s m args below meth c D A 4 0 0 Q [(a_t, .inr (8, [.ref b_may, .ref b_voyage, .ref b_lucky, .ref a_worths, .ref b_ranks, .int x_t_signs, .ref b_pad, .int x_t_day, .int x_t_reason, .ref b_bears, .ref b_due, .ref b_borneBy, .ref b_gone, .ref b_sunk, .ref b_times, .int x_t_asked, .ref b_whoBore, .ref b_gives, .ref b_best, .ref b_holds, .ref b_refused, .ref b_sums, .ref b_image, .ref b_isKept])), (a_r0, .inl (cI, N_r0, .inl f_r0)), (a_worths, .inl (cI, 30, .inl f_worths))] [(0, .ref a_t), (1, .ref a_r0), (3, .int v3)] [.int s1, .int s0] 33 := by
        intro v3 s0 s1 h
        replace h : (ogl (s0 + s1) (fun (v2_34 : Int32) => ogl (v3 + 1) (fun (v3_35 : Int32) => ((m_X8_worthOf_4 N_r0 f_r0 f_worths fuel_4) v2_34 v3_35))) : Option Int32) = some res := h
        refine ww_iadd B dX8_worthOf_33 ?_
        refine ww_topi (fun v2_34 ev2_34 => ?_)
        replace h := og_l ev2_34 h
        refine ww_istore_n B dX8_worthOf_34 (lv' := [(2, .int v2_34), (0, .ref a_t), (1, .ref a_r0), (3, .int v3)]) (by decide) rfl ?_
        obtain ⟨v3_35, ev3_35⟩ : ∃ y : Int32, y = (v3 + 1) := ⟨_, rfl⟩
        refine ww_iinc B dX8_worthOf_35 3 rfl (v := v3_35) (by rw [ev3_35]; rfl) (by decide) (lv' := [(3, .int v3_35), (2, .int v2_34), (0, .ref a_t), (1, .ref a_r0)]) rfl ?_
        replace h := og_l ev3_35 h
        refine ww_goto B 4 dX8_worthOf_38 (by decide) ?_
        refine ww_lsel (lv' := [(0, .ref a_t), (1, .ref a_r0), (2, .int v2_34), (3, .int v3_35)]) [2, 3, 1, 0] rfl ?_
        exact ih_4 _ _ h
      intro v2 v3 h
      replace h : (if 6 ≤ v3 then (some v2) else (ogi v3 N_r0 (if (f_r0 (Int32.toNatClampNeg v3)) < 0 then ((m_X8_worthOf_33 (m_X8_worthOf_4 N_r0 f_r0 f_worths fuel_4) N_r0 f_r0 f_worths v3 v2 0)) else (ogi v3 N_r0 (ogi ((5 * v3) + (f_r0 (Int32.toNatClampNeg v3))) 30 ((m_X8_worthOf_33 (m_X8_worthOf_4 N_r0 f_r0 f_worths fuel_4) N_r0 f_r0 f_worths v3 v2 (f_worths (Int32.toNatClampNeg ((5 * v3) + (f_r0 (Int32.toNatClampNeg v3))))))))))) : Option Int32) = some res := h
      refine ww_iload_n B dX8_worthOf_4 3 rfl ?_
      refine ww_bipush B dX8_worthOf_5 (v := 6) (by decide) ?_
      refine ww_icmp_ge B 41 dX8_worthOf_7 (by decide) (fun c_7 => ?_) (fun c_7 => ?_)
      · replace h := og_t c_7 h
        refine ww_iload_n B dX8_worthOf_41 2 rfl ?_
        exact ww_iret B hA hQ hr dX8_worthOf_42 () [0, 1, 2] rfl (by decide) (og_s h).symm
      · replace h := og_f c_7 h
        refine ww_iload_n B dX8_worthOf_10 2 rfl ?_
        refine ww_aload_n B dX8_worthOf_11 1 rfl ?_
        refine ww_iload_n B dX8_worthOf_12 3 rfl ?_
        obtain ⟨i_13, h⟩ := og_i h
        refine ww_iald B 1 rfl i_13 dX8_worthOf_13 ?_
        refine ww_if_lt B 32 dX8_worthOf_14 (by decide) (fun c_14 => ?_) (fun c_14 => ?_)
        · replace h := og_t c_14 h
          refine ww_iconst B dX8_worthOf_32 (v := 0) (by decide) ?_
          refine ww_lsel (lv' := [(0, .ref a_t), (1, .ref a_r0), (3, .int v3)]) [0, 1, 3] rfl ?_
          exact cut_33 _ _ _ h
        · replace h := og_f c_14 h
          refine ww_aload_n B dX8_worthOf_17 0 rfl ?_
          refine ww_get (ci := 8) (T := TX8) (C := RX8) (N := 24) B iX8 0 rfl rfl 3 (by decide) (by decide +kernel) rfl rfl dX8_worthOf_18 ?_
          refine ww_iconst B dX8_worthOf_21 (v := 5) (by decide) ?_
          refine ww_iload_n B dX8_worthOf_22 3 rfl ?_
          refine ww_imul B dX8_worthOf_23 ?_
          refine ww_aload_n B dX8_worthOf_24 1 rfl ?_
          refine ww_iload_n B dX8_worthOf_25 3 rfl ?_
          obtain ⟨i_26, h⟩ := og_i h
          refine ww_iald B 1 rfl i_26 dX8_worthOf_26 ?_
          refine ww_iadd B dX8_worthOf_27 ?_
          obtain ⟨i_28, h⟩ := og_i h
          refine ww_iald B 2 rfl i_28 dX8_worthOf_28 ?_
          refine ww_goto B 33 dX8_worthOf_29 (by decide) ?_
          refine ww_lsel (lv' := [(0, .ref a_t), (1, .ref a_r0), (3, .int v3)]) [0, 1, 3] rfl ?_
          exact cut_33 _ _ _ h
  refine ww_iconst B dX8_worthOf_0 (v := 0) (by decide) ?_
  refine ww_istore_n B dX8_worthOf_1 (lv' := [(2, .int 0), (0, .ref a_t), (1, .ref a_r0)]) (by decide) rfl ?_
  refine ww_iconst B dX8_worthOf_2 (v := 0) (by decide) ?_
  refine ww_istore_n B dX8_worthOf_3 (lv' := [(3, .int 0), (2, .int 0), (0, .ref a_t), (1, .ref a_r0)]) (by decide) rfl ?_
  refine ww_lsel (lv' := [(0, .ref a_t), (1, .ref a_r0), (2, .int 0), (3, .int 0)]) [2, 3, 1, 0] rfl ?_
  exact cut_4 _ _ _ h
noncomputable def m_X8_toldOf (f_best : (Nat → Int32)) (f_worths : (Nat → Int32)) (v1 : Int32) : Option Int32 := if v1 = (-2) then (ogb (m_X8_sailing 6 f_best) (fun q_11 => some q_11)) else (if v1 = (-1) then (ogb (m_X8_worthOf 6 f_best f_worths) (fun q_27 => some q_27)) else (ogb (m_X8_isHull v1) (fun q_34 => if q_34 = 0 then (some (-6)) else (ogi v1 6 (some (f_best (Int32.toNatClampNeg v1)))))))
set_option maxHeartbeats 4000000 in
set_option maxRecDepth 100000 in
theorem c_X8_toldOf (l : Launch) (D : va_G) (cI cZ : ClassId) (a_t a_best a_worths b_may b_voyage b_lucky b_ranks b_pad b_bears b_due b_borneBy b_gone b_sunk b_times b_whoBore b_gives b_holds b_refused b_sums b_image b_isKept : Nat) (f_best : (Nat → Int32)) (f_worths : (Nat → Int32)) (x_t_signs : Int32) (x_t_day : Int32) (x_t_reason : Int32) (x_t_asked : Int32) (v1 : Int32) {res : Int32} (h : m_X8_toldOf f_best f_worths v1 = some res) : CT l yX8_toldOf wsX8_toldOf ({ frames := 2, cells := 0, slots := 0, locals := 42 } : Room) D cI cZ [.ref a_t, .int v1] [(a_t, .inr (8, [.ref b_may, .ref b_voyage, .ref b_lucky, .ref a_worths, .ref b_ranks, .int x_t_signs, .ref b_pad, .int x_t_day, .int x_t_reason, .ref b_bears, .ref b_due, .ref b_borneBy, .ref b_gone, .ref b_sunk, .ref b_times, .int x_t_asked, .ref b_whoBore, .ref b_gives, .ref a_best, .ref b_holds, .ref b_refused, .ref b_sums, .ref b_image, .ref b_isKept])), (a_best, .inl (cI, 6, .inl f_best)), (a_worths, .inl (cI, 30, .inl f_worths))] (QI D [(a_t, .inr (8, [.ref b_may, .ref b_voyage, .ref b_lucky, .ref a_worths, .ref b_ranks, .int x_t_signs, .ref b_pad, .int x_t_day, .int x_t_reason, .ref b_bears, .ref b_due, .ref b_borneBy, .ref b_gone, .ref b_sunk, .ref b_times, .int x_t_asked, .ref b_whoBore, .ref b_gives, .ref a_best, .ref b_holds, .ref b_refused, .ref b_sums, .ref b_image, .ref b_isKept])), (a_best, .inl (cI, 6, .inl f_best)), (a_worths, .inl (cI, 30, .inl f_worths))] (fun (r : Int32) (_ : Unit) => r = res) (fun (u : Unit) => [(a_t, .inr (8, [.ref b_may, .ref b_voyage, .ref b_lucky, .ref a_worths, .ref b_ranks, .int x_t_signs, .ref b_pad, .int x_t_day, .int x_t_reason, .ref b_bears, .ref b_due, .ref b_borneBy, .ref b_gone, .ref b_sunk, .ref b_times, .int x_t_asked, .ref b_whoBore, .ref b_gives, .ref a_best, .ref b_holds, .ref b_refused, .ref b_sums, .ref b_image, .ref b_isKept])), (a_best, .inl (cI, 6, .inl f_best)), (a_worths, .inl (cI, 30, .inl f_worths))])) 0 0 := by
  have h : (if v1 = (-2) then (ogb (m_X8_sailing 6 f_best) (fun q_11 => some q_11)) else (if v1 = (-1) then (ogb (m_X8_worthOf 6 f_best f_worths) (fun q_27 => some q_27)) else (ogb (m_X8_isHull v1) (fun q_34 => if q_34 = 0 then (some (-6)) else (ogi v1 6 (some (f_best (Int32.toNatClampNeg v1))))))) : Option Int32) = some res := h
  refine ct_entry (cc := cX8_toldOf) (nl := 2) (ret := (some .int)) (own := RX8) (lv0 := [(0, .ref a_t), (1, .int v1)]) (by decide) rfl rfl (Nat.le_of_ble_eq_true rfl) rfl ?_
  intro p e s m args below meth c A Q hA hQ hr hnm B
  have iX8 : ∀ w ∈ wsX80, w ∈ wsX8_toldOf := by decide +kernel
  refine ww_iload_n B dX8_toldOf_0 1 rfl ?_
  refine ww_bipush B dX8_toldOf_1 (v := (-2)) (by decide) ?_
  refine ww_icmp_ne B 17 dX8_toldOf_3 (by decide) (fun c_3 => ?_) (fun c_3 => ?_)
  · replace h := og_f c_3 h
    refine ww_iload_n B dX8_toldOf_17 1 rfl ?_
    refine ww_iconst B dX8_toldOf_18 (v := (-1)) (by decide) ?_
    refine ww_icmp_ne B 33 dX8_toldOf_19 (by decide) (fun c_19 => ?_) (fun c_19 => ?_)
    · replace h := og_f c_19 h
      refine ww_iload_n B dX8_toldOf_33 1 rfl ?_
      obtain ⟨q_34, hq_34, h⟩ := og_b h
      refine ww_ci0 B (k' := 0) (n' := 0) rfl rfl [] [0, 1, 2] (wr := [(a_t, .inr (8, [.ref b_may, .ref b_voyage, .ref b_lucky, .ref a_worths, .ref b_ranks, .int x_t_signs, .ref b_pad, .int x_t_day, .int x_t_reason, .ref b_bears, .ref b_due, .ref b_borneBy, .ref b_gone, .ref b_sunk, .ref b_times, .int x_t_asked, .ref b_whoBore, .ref b_gives, .ref a_best, .ref b_holds, .ref b_refused, .ref b_sums, .ref b_image, .ref b_isKept])), (a_best, .inl (cI, 6, .inl f_best)), (a_worths, .inl (cI, 30, .inl f_worths))]) (st := []) rfl rfl (by decide) (rr_S B (c_X8_isHull l D cI cZ v1 hq_34) gX8_toldOf_X8_isHull rfl rfl rfl (N := 1) rfl (by decide +kernel) ⟨Nat.le_of_ble_eq_true rfl, Nat.le_of_ble_eq_true rfl⟩ rfl dX8_toldOf_34 (Nat.le_of_ble_eq_true rfl) ⟨Nat.le_of_ble_eq_true rfl, Nat.le_of_ble_eq_true rfl⟩) (ws' := [(a_t, .inr (8, [.ref b_may, .ref b_voyage, .ref b_lucky, .ref a_worths, .ref b_ranks, .int x_t_signs, .ref b_pad, .int x_t_day, .int x_t_reason, .ref b_bears, .ref b_due, .ref b_borneBy, .ref b_gone, .ref b_sunk, .ref b_times, .int x_t_asked, .ref b_whoBore, .ref b_gives, .ref a_best, .ref b_holds, .ref b_refused, .ref b_sums, .ref b_image, .ref b_isKept])), (a_best, .inl (cI, 6, .inl f_best)), (a_worths, .inl (cI, 30, .inl f_worths))]) rfl ?_
      refine ww_if_eq B 49 dX8_toldOf_37 (by decide) (fun c_37 => ?_) (fun c_37 => ?_)
      · replace h := og_t c_37 h
        refine ww_bipush B dX8_toldOf_49 (v := (-6)) (by decide) ?_
        exact ww_iret B hA hQ hr dX8_toldOf_51 () [0, 1, 2] rfl (by decide) (og_s h).symm
      · replace h := og_f c_37 h
        refine ww_aload_n B dX8_toldOf_40 0 rfl ?_
        refine ww_get (ci := 8) (T := TX8) (C := RX8) (N := 24) B iX8 0 rfl rfl 18 (by decide) (by decide +kernel) rfl rfl dX8_toldOf_41 ?_
        refine ww_iload_n B dX8_toldOf_44 1 rfl ?_
        obtain ⟨i_45, h⟩ := og_i h
        refine ww_iald B 1 rfl i_45 dX8_toldOf_45 ?_
        refine ww_goto B 51 dX8_toldOf_46 (by decide) ?_
        exact ww_iret B hA hQ hr dX8_toldOf_51 () [0, 1, 2] rfl (by decide) (og_s h).symm
    · replace h := og_t c_19 h
      refine ww_aload_n B dX8_toldOf_22 0 rfl ?_
      refine ww_aload_n B dX8_toldOf_23 0 rfl ?_
      refine ww_get (ci := 8) (T := TX8) (C := RX8) (N := 24) B iX8 0 rfl rfl 18 (by decide) (by decide +kernel) rfl rfl dX8_toldOf_24 ?_
      obtain ⟨q_27, hq_27, h⟩ := og_b h
      refine ww_ci0 B (k' := 0) (n' := 0) rfl rfl [0, 1, 2] [] (wr := []) (st := []) rfl rfl (by decide) (rr_V B (c_X8_worthOf l D cI cZ a_t a_best a_worths b_may b_voyage b_lucky b_ranks b_pad b_bears b_due b_borneBy b_gone b_sunk b_times b_whoBore b_gives a_best b_holds b_refused b_sums b_image b_isKept 6 f_best f_worths x_t_signs x_t_day x_t_reason x_t_asked hq_27) gX8_toldOf_X8_worthOf rfl rfl rfl (N := 1) rfl (by decide +kernel) ⟨Nat.le_of_ble_eq_true rfl, Nat.le_of_ble_eq_true rfl⟩ rfl dX8_toldOf_27 0 rfl rfl (Nat.le_of_ble_eq_true rfl) ⟨Nat.le_of_ble_eq_true rfl, Nat.le_of_ble_eq_true rfl⟩) (ws' := [(a_t, .inr (8, [.ref b_may, .ref b_voyage, .ref b_lucky, .ref a_worths, .ref b_ranks, .int x_t_signs, .ref b_pad, .int x_t_day, .int x_t_reason, .ref b_bears, .ref b_due, .ref b_borneBy, .ref b_gone, .ref b_sunk, .ref b_times, .int x_t_asked, .ref b_whoBore, .ref b_gives, .ref a_best, .ref b_holds, .ref b_refused, .ref b_sums, .ref b_image, .ref b_isKept])), (a_best, .inl (cI, 6, .inl f_best)), (a_worths, .inl (cI, 30, .inl f_worths))]) rfl ?_
      refine ww_goto B 51 dX8_toldOf_30 (by decide) ?_
      exact ww_iret B hA hQ hr dX8_toldOf_51 () [0, 1, 2] rfl (by decide) (og_s h).symm
  · replace h := og_t c_3 h
    refine ww_aload_n B dX8_toldOf_6 0 rfl ?_
    refine ww_aload_n B dX8_toldOf_7 0 rfl ?_
    refine ww_get (ci := 8) (T := TX8) (C := RX8) (N := 24) B iX8 0 rfl rfl 18 (by decide) (by decide +kernel) rfl rfl dX8_toldOf_8 ?_
    obtain ⟨q_11, hq_11, h⟩ := og_b h
    refine ww_ci0 B (k' := 0) (n' := 0) rfl rfl [0, 1] [2] (wr := [(a_worths, .inl (cI, 30, .inl f_worths))]) (st := []) rfl rfl (by decide) (rr_V B (c_X8_sailing l D cI cZ a_t a_best b_may b_voyage b_lucky a_worths b_ranks b_pad b_bears b_due b_borneBy b_gone b_sunk b_times b_whoBore b_gives a_best b_holds b_refused b_sums b_image b_isKept 6 f_best x_t_signs x_t_day x_t_reason x_t_asked hq_11) gX8_toldOf_X8_sailing rfl rfl rfl (N := 1) rfl (by decide +kernel) ⟨Nat.le_of_ble_eq_true rfl, Nat.le_of_ble_eq_true rfl⟩ rfl dX8_toldOf_11 0 rfl rfl (Nat.le_of_ble_eq_true rfl) ⟨Nat.le_of_ble_eq_true rfl, Nat.le_of_ble_eq_true rfl⟩) (ws' := [(a_worths, .inl (cI, 30, .inl f_worths)), (a_t, .inr (8, [.ref b_may, .ref b_voyage, .ref b_lucky, .ref a_worths, .ref b_ranks, .int x_t_signs, .ref b_pad, .int x_t_day, .int x_t_reason, .ref b_bears, .ref b_due, .ref b_borneBy, .ref b_gone, .ref b_sunk, .ref b_times, .int x_t_asked, .ref b_whoBore, .ref b_gives, .ref a_best, .ref b_holds, .ref b_refused, .ref b_sums, .ref b_image, .ref b_isKept])), (a_best, .inl (cI, 6, .inl f_best))]) rfl ?_
    refine ww_goto B 51 dX8_toldOf_14 (by decide) ?_
    exact ww_iret B hA hQ hr dX8_toldOf_51 () [1, 2, 0] rfl (by decide) (og_s h).symm
noncomputable def m_X8_most_92 (k21 : Int32 → Int32 → Int32 → Int32 → Int32 → Int32 → (Nat → Int32) → (Nat → Int32) → Option (Int32 × ((Nat → Int32) × (Nat → Int32)))) (f_may : (Nat → Int32)) (f_worths : (Nat → Int32)) (v1 : Int32) (v2 : Int32) (v3 : Int32) (v4 : Int32) (v5 : Int32) (v6 : Int32) (f_best : (Nat → Int32)) (f_gives : (Nat → Int32)) : Option (Int32 × ((Nat → Int32) × (Nat → Int32))) := ogl (v6 + 1) (fun (v6_92 : Int32) => (k21 v1 v2 v3 v4 v5 v6_92 f_best f_gives))
noncomputable def m_X8_most_80 (k21 : Int32 → Int32 → Int32 → Int32 → Int32 → Int32 → (Nat → Int32) → (Nat → Int32) → Option (Int32 × ((Nat → Int32) × (Nat → Int32)))) (f_may : (Nat → Int32)) (f_worths : (Nat → Int32)) (v1 : Int32) (v2 : Int32) (v3 : Int32) (v6 : Int32) (v7 : Int32) (v8 : Int32) (f_best : (Nat → Int32)) (f_gives : (Nat → Int32)) : Option (Int32 × ((Nat → Int32) × (Nat → Int32))) := ogb (m_X8_keepBest f_gives f_best) (fun q_89 => (m_X8_most_92 k21 f_may f_worths v1 v2 v3 v7 v8 v6 q_89 f_gives))
noncomputable def m_X8_most_21b (k21 : Int32 → Int32 → Int32 → Int32 → Int32 → Int32 → (Nat → Int32) → (Nat → Int32) → Option (Int32 × ((Nat → Int32) × (Nat → Int32)))) (f_may : (Nat → Int32)) (f_worths : (Nat → Int32)) (v1 : Int32) (v2 : Int32) (v3 : Int32) (v4 : Int32) (v5 : Int32) (v6 : Int32) (f_best : (Nat → Int32)) (f_gives : (Nat → Int32)) : Option (Int32 × ((Nat → Int32) × (Nat → Int32))) := if 46656 ≤ v6 then (ogb (m_X8_toldOf f_best f_worths v3) (fun q_100 => some (q_100, (f_best, f_gives)))) else (ogb (m_X8_layGiving f_may f_gives v6 v1 v2) (fun q_33 => if q_33.1 = 0 then ((m_X8_most_92 k21 f_may f_worths v1 v2 v3 v4 v5 v6 f_best q_33.2)) else (ogb (m_X8_sailing 6 q_33.2) (fun q_44 => ogb (m_X8_worthOf 6 q_33.2 f_worths) (fun q_54 => if v4 < q_44 then ((m_X8_most_80 k21 f_may f_worths v1 v2 v3 v6 q_44 q_54 f_best q_33.2)) else (if q_44 = v4 then (if q_54 ≤ v5 then ((m_X8_most_92 k21 f_may f_worths v1 v2 v3 v4 v5 v6 f_best q_33.2)) else ((m_X8_most_80 k21 f_may f_worths v1 v2 v3 v6 q_44 q_54 f_best q_33.2))) else ((m_X8_most_92 k21 f_may f_worths v1 v2 v3 v4 v5 v6 f_best q_33.2))))))))
noncomputable def m_X8_most_21 (f_may : (Nat → Int32)) (f_worths : (Nat → Int32)) (fuel : Nat) : Int32 → Int32 → Int32 → Int32 → Int32 → Int32 → (Nat → Int32) → (Nat → Int32) → Option (Int32 × ((Nat → Int32) × (Nat → Int32))) := Nat.rec (fun _ _ _ _ _ _ _ _ => none) (fun _ k21 => m_X8_most_21b k21 f_may f_worths) fuel
noncomputable def m_X8_most (f_may : (Nat → Int32)) (f_worths : (Nat → Int32)) (f_best : (Nat → Int32)) (f_gives : (Nat → Int32)) (v1 : Int32) (v2 : Int32) (v3 : Int32) : Option (Int32 × ((Nat → Int32) × (Nat → Int32))) := ogb (m_X8_areSets v1 v2) (fun q_2 => if q_2 = 0 then (some ((-2), (f_best, f_gives))) else ((m_X8_most_21 f_may f_worths 1000000 v1 v2 v3 (-6) 0 0 f_best f_gives)))
set_option maxHeartbeats 4000000 in
set_option maxRecDepth 100000 in
theorem c_X8_most (l : Launch) (D : va_G) (cI cZ : ClassId) (a_t a_best a_gives a_may a_worths b_voyage b_lucky b_ranks b_pad b_bears b_due b_borneBy b_gone b_sunk b_times b_whoBore b_holds b_refused b_sums b_image b_isKept : Nat) (f_best : (Nat → Int32)) (f_gives : (Nat → Int32)) (f_may : (Nat → Int32)) (f_worths : (Nat → Int32)) (x_t_signs : Int32) (x_t_day : Int32) (x_t_reason : Int32) (x_t_asked : Int32) (v1 : Int32) (v2 : Int32) (v3 : Int32) {res : (Int32 × ((Nat → Int32) × (Nat → Int32)))} (h : m_X8_most f_may f_worths f_best f_gives v1 v2 v3 = some res) : CT l yX8_most wsX8_most ({ frames := 3, cells := 0, slots := 0, locals := 63 } : Room) D cI cZ [.ref a_t, .int v1, .int v2, .int v3] [(a_t, .inr (8, [.ref a_may, .ref b_voyage, .ref b_lucky, .ref a_worths, .ref b_ranks, .int x_t_signs, .ref b_pad, .int x_t_day, .int x_t_reason, .ref b_bears, .ref b_due, .ref b_borneBy, .ref b_gone, .ref b_sunk, .ref b_times, .int x_t_asked, .ref b_whoBore, .ref a_gives, .ref a_best, .ref b_holds, .ref b_refused, .ref b_sums, .ref b_image, .ref b_isKept])), (a_best, .inl (cI, 6, .inl f_best)), (a_gives, .inl (cI, 6, .inl f_gives)), (a_may, .inl (cI, 6, .inl f_may)), (a_worths, .inl (cI, 30, .inl f_worths))] (QI D [(a_t, .inr (8, [.ref a_may, .ref b_voyage, .ref b_lucky, .ref a_worths, .ref b_ranks, .int x_t_signs, .ref b_pad, .int x_t_day, .int x_t_reason, .ref b_bears, .ref b_due, .ref b_borneBy, .ref b_gone, .ref b_sunk, .ref b_times, .int x_t_asked, .ref b_whoBore, .ref a_gives, .ref a_best, .ref b_holds, .ref b_refused, .ref b_sums, .ref b_image, .ref b_isKept])), (a_best, .inl (cI, 6, .inl f_best)), (a_gives, .inl (cI, 6, .inl f_gives)), (a_may, .inl (cI, 6, .inl f_may)), (a_worths, .inl (cI, 30, .inl f_worths))] (fun (r : Int32) (u : (Nat → Int32) × (Nat → Int32)) => r = res.1 ∧ u = res.2) (fun (u : (Nat → Int32) × (Nat → Int32)) => [(a_t, .inr (8, [.ref a_may, .ref b_voyage, .ref b_lucky, .ref a_worths, .ref b_ranks, .int x_t_signs, .ref b_pad, .int x_t_day, .int x_t_reason, .ref b_bears, .ref b_due, .ref b_borneBy, .ref b_gone, .ref b_sunk, .ref b_times, .int x_t_asked, .ref b_whoBore, .ref a_gives, .ref a_best, .ref b_holds, .ref b_refused, .ref b_sums, .ref b_image, .ref b_isKept])), (a_best, .inl (cI, 6, .inl u.1)), (a_gives, .inl (cI, 6, .inl u.2)), (a_may, .inl (cI, 6, .inl f_may)), (a_worths, .inl (cI, 30, .inl f_worths))])) 0 0 := by
  have h : (ogb (m_X8_areSets v1 v2) (fun q_2 => if q_2 = 0 then (some ((-2), (f_best, f_gives))) else ((m_X8_most_21 f_may f_worths 1000000 v1 v2 v3 (-6) 0 0 f_best f_gives))) : Option (Int32 × ((Nat → Int32) × (Nat → Int32)))) = some res := h
  refine ct_entry (cc := cX8_most) (nl := 9) (ret := (some .int)) (own := RX8) (lv0 := [(0, .ref a_t), (1, .int v1), (2, .int v2), (3, .int v3)]) (by decide) rfl rfl (Nat.le_of_ble_eq_true rfl) rfl ?_
  intro p e s m args below meth c A Q hA hQ hr hnm B
  have iX8 : ∀ w ∈ wsX80, w ∈ wsX8_most := by decide +kernel
  have cut_21 : ∀ (fuel : Nat) (v1 : Int32) (v2 : Int32) (v3 : Int32) (v4 : Int32) (v5 : Int32) (v6 : Int32) (f_best : (Nat → Int32)) (f_gives : (Nat → Int32)), m_X8_most_21 f_may f_worths fuel v1 v2 v3 v4 v5 v6 f_best f_gives = some res → WW p l e (headSpec wsX8_most ({ frames := 3, cells := 0, slots := 0, locals := 63 } : Room)).room s m args below meth c D A 9 0 0 Q [(a_t, .inr (8, [.ref a_may, .ref b_voyage, .ref b_lucky, .ref a_worths, .ref b_ranks, .int x_t_signs, .ref b_pad, .int x_t_day, .int x_t_reason, .ref b_bears, .ref b_due, .ref b_borneBy, .ref b_gone, .ref b_sunk, .ref b_times, .int x_t_asked, .ref b_whoBore, .ref a_gives, .ref a_best, .ref b_holds, .ref b_refused, .ref b_sums, .ref b_image, .ref b_isKept])), (a_best, .inl (cI, 6, .inl f_best)), (a_gives, .inl (cI, 6, .inl f_gives)), (a_may, .inl (cI, 6, .inl f_may)), (a_worths, .inl (cI, 30, .inl f_worths))] [(0, .ref a_t), (1, .int v1), (2, .int v2), (3, .int v3), (4, .int v4), (5, .int v5), (6, .int v6)] [] 21 := by
    intro fuel_21
    induction fuel_21 with
    | zero => intro v1 v2 v3 v4 v5 v6 f_best f_gives h; exact og_0 h
    | succ fuel_21 ih_21 =>
      have cut_92 : ∀ (v1 : Int32) (v2 : Int32) (v3 : Int32) (v4 : Int32) (v5 : Int32) (v6 : Int32) (f_best : (Nat → Int32)) (f_gives : (Nat → Int32)), m_X8_most_92 (m_X8_most_21 f_may f_worths fuel_21) f_may f_worths v1 v2 v3 v4 v5 v6 f_best f_gives = some res → WW p l e (headSpec wsX8_most ({ frames := 3, cells := 0, slots := 0, locals := 63 } : Room)).room s m args below meth c D A 9 0 0 Q [(a_t, .inr (8, [.ref a_may, .ref b_voyage, .ref b_lucky, .ref a_worths, .ref b_ranks, .int x_t_signs, .ref b_pad, .int x_t_day, .int x_t_reason, .ref b_bears, .ref b_due, .ref b_borneBy, .ref b_gone, .ref b_sunk, .ref b_times, .int x_t_asked, .ref b_whoBore, .ref a_gives, .ref a_best, .ref b_holds, .ref b_refused, .ref b_sums, .ref b_image, .ref b_isKept])), (a_best, .inl (cI, 6, .inl f_best)), (a_gives, .inl (cI, 6, .inl f_gives)), (a_may, .inl (cI, 6, .inl f_may)), (a_worths, .inl (cI, 30, .inl f_worths))] [(0, .ref a_t), (1, .int v1), (2, .int v2), (3, .int v3), (4, .int v4), (5, .int v5), (6, .int v6)] [] 92 := by
        intro v1 v2 v3 v4 v5 v6 f_best f_gives h
        replace h : (ogl (v6 + 1) (fun (v6_92 : Int32) => ((m_X8_most_21 f_may f_worths fuel_21) v1 v2 v3 v4 v5 v6_92 f_best f_gives)) : Option (Int32 × ((Nat → Int32) × (Nat → Int32)))) = some res := h
        obtain ⟨v6_92, ev6_92⟩ : ∃ y : Int32, y = (v6 + 1) := ⟨_, rfl⟩
        refine ww_iinc B dX8_most_92 6 rfl (v := v6_92) (by rw [ev6_92]; rfl) (by decide) (lv' := [(6, .int v6_92), (0, .ref a_t), (1, .int v1), (2, .int v2), (3, .int v3), (4, .int v4), (5, .int v5)]) rfl ?_
        replace h := og_l ev6_92 h
        refine ww_goto B 21 dX8_most_95 (by decide) ?_
        refine ww_lsel (lv' := [(0, .ref a_t), (1, .int v1), (2, .int v2), (3, .int v3), (4, .int v4), (5, .int v5), (6, .int v6_92)]) [1, 2, 3, 4, 5, 6, 0] rfl ?_
        exact ih_21 _ _ _ _ _ _ _ _ h
      have cut_80 : ∀ (v1 : Int32) (v2 : Int32) (v3 : Int32) (v6 : Int32) (v7 : Int32) (v8 : Int32) (f_best : (Nat → Int32)) (f_gives : (Nat → Int32)), m_X8_most_80 (m_X8_most_21 f_may f_worths fuel_21) f_may f_worths v1 v2 v3 v6 v7 v8 f_best f_gives = some res → WW p l e (headSpec wsX8_most ({ frames := 3, cells := 0, slots := 0, locals := 63 } : Room)).room s m args below meth c D A 9 0 0 Q [(a_t, .inr (8, [.ref a_may, .ref b_voyage, .ref b_lucky, .ref a_worths, .ref b_ranks, .int x_t_signs, .ref b_pad, .int x_t_day, .int x_t_reason, .ref b_bears, .ref b_due, .ref b_borneBy, .ref b_gone, .ref b_sunk, .ref b_times, .int x_t_asked, .ref b_whoBore, .ref a_gives, .ref a_best, .ref b_holds, .ref b_refused, .ref b_sums, .ref b_image, .ref b_isKept])), (a_best, .inl (cI, 6, .inl f_best)), (a_gives, .inl (cI, 6, .inl f_gives)), (a_may, .inl (cI, 6, .inl f_may)), (a_worths, .inl (cI, 30, .inl f_worths))] [(0, .ref a_t), (1, .int v1), (2, .int v2), (3, .int v3), (6, .int v6), (7, .int v7), (8, .int v8)] [] 80 := by
        intro v1 v2 v3 v6 v7 v8 f_best f_gives h
        replace h : (ogb (m_X8_keepBest f_gives f_best) (fun q_89 => (m_X8_most_92 (m_X8_most_21 f_may f_worths fuel_21) f_may f_worths v1 v2 v3 v7 v8 v6 q_89 f_gives)) : Option (Int32 × ((Nat → Int32) × (Nat → Int32)))) = some res := h
        refine ww_iload B dX8_most_80 5 rfl ?_
        refine ww_istore B dX8_most_82 (lv' := [(4, .int v7), (0, .ref a_t), (1, .int v1), (2, .int v2), (3, .int v3), (6, .int v6), (7, .int v7), (8, .int v8)]) (by decide) rfl ?_
        refine ww_iload B dX8_most_84 7 rfl ?_
        refine ww_istore B dX8_most_86 (lv' := [(5, .int v8), (4, .int v7), (0, .ref a_t), (1, .int v1), (2, .int v2), (3, .int v3), (6, .int v6), (7, .int v7), (8, .int v8)]) (by decide) rfl ?_
        refine ww_aload_n B dX8_most_88 2 rfl ?_
        obtain ⟨q_89, hq_89, h⟩ := og_b h
        refine ww_cvM B (k' := 0) (n' := 0) rfl rfl [0, 1, 2] [3, 4] (wr := [(a_may, .inl (cI, 6, .inl f_may)), (a_worths, .inl (cI, 30, .inl f_worths))]) (st := []) rfl rfl (by decide) (rr_V B (c_X8_keepBest l D cI cZ a_t a_best a_gives a_may b_voyage b_lucky a_worths b_ranks b_pad b_bears b_due b_borneBy b_gone b_sunk b_times b_whoBore b_holds b_refused b_sums b_image b_isKept f_best f_gives x_t_signs x_t_day x_t_reason x_t_asked hq_89) gX8_most_X8_keepBest rfl rfl rfl (N := 0) rfl (by decide +kernel) ⟨Nat.le_of_ble_eq_true rfl, Nat.le_of_ble_eq_true rfl⟩ rfl dX8_most_89 0 rfl rfl (Nat.le_of_ble_eq_true rfl) ⟨Nat.le_of_ble_eq_true rfl, Nat.le_of_ble_eq_true rfl⟩) (ws' := [(a_may, .inl (cI, 6, .inl f_may)), (a_worths, .inl (cI, 30, .inl f_worths)), (a_t, .inr (8, [.ref a_may, .ref b_voyage, .ref b_lucky, .ref a_worths, .ref b_ranks, .int x_t_signs, .ref b_pad, .int x_t_day, .int x_t_reason, .ref b_bears, .ref b_due, .ref b_borneBy, .ref b_gone, .ref b_sunk, .ref b_times, .int x_t_asked, .ref b_whoBore, .ref a_gives, .ref a_best, .ref b_holds, .ref b_refused, .ref b_sums, .ref b_image, .ref b_isKept])), (a_best, .inl (cI, 6, .inl q_89)), (a_gives, .inl (cI, 6, .inl f_gives))]) rfl ?_
        refine ww_sub (ws' := [(a_t, .inr (8, [.ref a_may, .ref b_voyage, .ref b_lucky, .ref a_worths, .ref b_ranks, .int x_t_signs, .ref b_pad, .int x_t_day, .int x_t_reason, .ref b_bears, .ref b_due, .ref b_borneBy, .ref b_gone, .ref b_sunk, .ref b_times, .int x_t_asked, .ref b_whoBore, .ref a_gives, .ref a_best, .ref b_holds, .ref b_refused, .ref b_sums, .ref b_image, .ref b_isKept])), (a_best, .inl (cI, 6, .inl q_89)), (a_gives, .inl (cI, 6, .inl f_gives)), (a_may, .inl (cI, 6, .inl f_may)), (a_worths, .inl (cI, 30, .inl f_worths))]) [2, 3, 4, 0, 1] rfl (by decide) ?_
        refine ww_lsel (lv' := [(0, .ref a_t), (1, .int v1), (2, .int v2), (3, .int v3), (4, .int v7), (5, .int v8), (6, .int v6)]) [2, 3, 4, 5, 1, 0, 6] rfl ?_
        exact cut_92 _ _ _ _ _ _ _ _ h
      intro v1 v2 v3 v4 v5 v6 f_best f_gives h
      replace h : (if 46656 ≤ v6 then (ogb (m_X8_toldOf f_best f_worths v3) (fun q_100 => some (q_100, (f_best, f_gives)))) else (ogb (m_X8_layGiving f_may f_gives v6 v1 v2) (fun q_33 => if q_33.1 = 0 then ((m_X8_most_92 (m_X8_most_21 f_may f_worths fuel_21) f_may f_worths v1 v2 v3 v4 v5 v6 f_best q_33.2)) else (ogb (m_X8_sailing 6 q_33.2) (fun q_44 => ogb (m_X8_worthOf 6 q_33.2 f_worths) (fun q_54 => if v4 < q_44 then ((m_X8_most_80 (m_X8_most_21 f_may f_worths fuel_21) f_may f_worths v1 v2 v3 v6 q_44 q_54 f_best q_33.2)) else (if q_44 = v4 then (if q_54 ≤ v5 then ((m_X8_most_92 (m_X8_most_21 f_may f_worths fuel_21) f_may f_worths v1 v2 v3 v4 v5 v6 f_best q_33.2)) else ((m_X8_most_80 (m_X8_most_21 f_may f_worths fuel_21) f_may f_worths v1 v2 v3 v6 q_44 q_54 f_best q_33.2))) else ((m_X8_most_92 (m_X8_most_21 f_may f_worths fuel_21) f_may f_worths v1 v2 v3 v4 v5 v6 f_best q_33.2)))))))) : Option (Int32 × ((Nat → Int32) × (Nat → Int32)))) = some res := h
      refine ww_iload B dX8_most_21 6 rfl ?_
      refine ww_ldc B (v := 46656) (by decide +kernel) dX8_most_23 ?_
      refine ww_icmp_ge B 98 dX8_most_25 (by decide) (fun c_25 => ?_) (fun c_25 => ?_)
      · replace h := og_t c_25 h
        refine ww_aload_n B dX8_most_98 0 rfl ?_
        refine ww_iload_n B dX8_most_99 3 rfl ?_
        obtain ⟨q_100, hq_100, h⟩ := og_b h
        refine ww_ci0 B (k' := 0) (n' := 0) rfl rfl [0, 1, 4] [2, 3] (wr := [(a_gives, .inl (cI, 6, .inl f_gives)), (a_may, .inl (cI, 6, .inl f_may))]) (st := []) rfl rfl (by decide) (rr_V B (c_X8_toldOf l D cI cZ a_t a_best a_worths a_may b_voyage b_lucky b_ranks b_pad b_bears b_due b_borneBy b_gone b_sunk b_times b_whoBore a_gives b_holds b_refused b_sums b_image b_isKept f_best f_worths x_t_signs x_t_day x_t_reason x_t_asked v3 hq_100) gX8_most_X8_toldOf rfl rfl rfl (N := 1) rfl (by decide +kernel) ⟨Nat.le_of_ble_eq_true rfl, Nat.le_of_ble_eq_true rfl⟩ rfl dX8_most_100 0 rfl rfl (Nat.le_of_ble_eq_true rfl) ⟨Nat.le_of_ble_eq_true rfl, Nat.le_of_ble_eq_true rfl⟩) (ws' := [(a_gives, .inl (cI, 6, .inl f_gives)), (a_may, .inl (cI, 6, .inl f_may)), (a_t, .inr (8, [.ref a_may, .ref b_voyage, .ref b_lucky, .ref a_worths, .ref b_ranks, .int x_t_signs, .ref b_pad, .int x_t_day, .int x_t_reason, .ref b_bears, .ref b_due, .ref b_borneBy, .ref b_gone, .ref b_sunk, .ref b_times, .int x_t_asked, .ref b_whoBore, .ref a_gives, .ref a_best, .ref b_holds, .ref b_refused, .ref b_sums, .ref b_image, .ref b_isKept])), (a_best, .inl (cI, 6, .inl f_best)), (a_worths, .inl (cI, 30, .inl f_worths))]) rfl ?_
        exact ww_iret B hA hQ hr dX8_most_103 (f_best, f_gives) [2, 3, 0, 1, 4] rfl (by decide) (og_p h)
      · replace h := og_f c_25 h
        refine ww_aload_n B dX8_most_28 0 rfl ?_
        refine ww_iload B dX8_most_29 6 rfl ?_
        refine ww_iload_n B dX8_most_31 1 rfl ?_
        refine ww_iload_n B dX8_most_32 2 rfl ?_
        obtain ⟨q_33, hq_33, h⟩ := og_b h
        refine ww_ciM B (k' := 0) (n' := 0) rfl rfl [0, 2, 3] [1, 4] (wr := [(a_best, .inl (cI, 6, .inl f_best)), (a_worths, .inl (cI, 30, .inl f_worths))]) (st := []) rfl rfl (by decide) (rr_V B (c_X8_layGiving l D cI cZ a_t a_gives a_may b_voyage b_lucky a_worths b_ranks b_pad b_bears b_due b_borneBy b_gone b_sunk b_times b_whoBore a_best b_holds b_refused b_sums b_image b_isKept f_gives f_may x_t_signs x_t_day x_t_reason x_t_asked v6 v1 v2 hq_33) gX8_most_X8_layGiving rfl rfl rfl (N := 3) rfl (by decide +kernel) ⟨Nat.le_of_ble_eq_true rfl, Nat.le_of_ble_eq_true rfl⟩ rfl dX8_most_33 0 rfl rfl (Nat.le_of_ble_eq_true rfl) ⟨Nat.le_of_ble_eq_true rfl, Nat.le_of_ble_eq_true rfl⟩) (ws' := [(a_best, .inl (cI, 6, .inl f_best)), (a_worths, .inl (cI, 30, .inl f_worths)), (a_t, .inr (8, [.ref a_may, .ref b_voyage, .ref b_lucky, .ref a_worths, .ref b_ranks, .int x_t_signs, .ref b_pad, .int x_t_day, .int x_t_reason, .ref b_bears, .ref b_due, .ref b_borneBy, .ref b_gone, .ref b_sunk, .ref b_times, .int x_t_asked, .ref b_whoBore, .ref a_gives, .ref a_best, .ref b_holds, .ref b_refused, .ref b_sums, .ref b_image, .ref b_isKept])), (a_gives, .inl (cI, 6, .inl q_33.2)), (a_may, .inl (cI, 6, .inl f_may))]) rfl ?_
        refine ww_if_eq B 92 dX8_most_36 (by decide) (fun c_36 => ?_) (fun c_36 => ?_)
        · replace h := og_t c_36 h
          refine ww_sub (ws' := [(a_t, .inr (8, [.ref a_may, .ref b_voyage, .ref b_lucky, .ref a_worths, .ref b_ranks, .int x_t_signs, .ref b_pad, .int x_t_day, .int x_t_reason, .ref b_bears, .ref b_due, .ref b_borneBy, .ref b_gone, .ref b_sunk, .ref b_times, .int x_t_asked, .ref b_whoBore, .ref a_gives, .ref a_best, .ref b_holds, .ref b_refused, .ref b_sums, .ref b_image, .ref b_isKept])), (a_best, .inl (cI, 6, .inl f_best)), (a_gives, .inl (cI, 6, .inl q_33.2)), (a_may, .inl (cI, 6, .inl f_may)), (a_worths, .inl (cI, 30, .inl f_worths))]) [2, 0, 3, 4, 1] rfl (by decide) ?_
          exact cut_92 _ _ _ _ _ _ _ _ h
        · replace h := og_f c_36 h
          refine ww_aload_n B dX8_most_39 0 rfl ?_
          refine ww_aload_n B dX8_most_40 0 rfl ?_
          refine ww_get (ci := 8) (T := TX8) (C := RX8) (N := 24) B iX8 2 rfl rfl 17 (by decide) (by decide +kernel) rfl rfl dX8_most_41 ?_
          obtain ⟨q_44, hq_44, h⟩ := og_b h
          refine ww_ci0 B (k' := 0) (n' := 0) rfl rfl [2, 3] [0, 1, 4] (wr := [(a_best, .inl (cI, 6, .inl f_best)), (a_worths, .inl (cI, 30, .inl f_worths)), (a_may, .inl (cI, 6, .inl f_may))]) (st := []) rfl rfl (by decide) (rr_V B (c_X8_sailing l D cI cZ a_t a_gives a_may b_voyage b_lucky a_worths b_ranks b_pad b_bears b_due b_borneBy b_gone b_sunk b_times b_whoBore a_gives a_best b_holds b_refused b_sums b_image b_isKept 6 q_33.2 x_t_signs x_t_day x_t_reason x_t_asked hq_44) gX8_most_X8_sailing rfl rfl rfl (N := 1) rfl (by decide +kernel) ⟨Nat.le_of_ble_eq_true rfl, Nat.le_of_ble_eq_true rfl⟩ rfl dX8_most_44 0 rfl rfl (Nat.le_of_ble_eq_true rfl) ⟨Nat.le_of_ble_eq_true rfl, Nat.le_of_ble_eq_true rfl⟩) (ws' := [(a_best, .inl (cI, 6, .inl f_best)), (a_worths, .inl (cI, 30, .inl f_worths)), (a_may, .inl (cI, 6, .inl f_may)), (a_t, .inr (8, [.ref a_may, .ref b_voyage, .ref b_lucky, .ref a_worths, .ref b_ranks, .int x_t_signs, .ref b_pad, .int x_t_day, .int x_t_reason, .ref b_bears, .ref b_due, .ref b_borneBy, .ref b_gone, .ref b_sunk, .ref b_times, .int x_t_asked, .ref b_whoBore, .ref a_gives, .ref a_best, .ref b_holds, .ref b_refused, .ref b_sums, .ref b_image, .ref b_isKept])), (a_gives, .inl (cI, 6, .inl q_33.2))]) rfl ?_
          refine ww_istore B dX8_most_47 (lv' := [(7, .int q_44), (0, .ref a_t), (1, .int v1), (2, .int v2), (3, .int v3), (4, .int v4), (5, .int v5), (6, .int v6)]) (by decide) rfl ?_
          refine ww_aload_n B dX8_most_49 1 rfl ?_
          refine ww_aload_n B dX8_most_50 1 rfl ?_
          refine ww_get (ci := 8) (T := TX8) (C := RX8) (N := 24) B iX8 3 rfl rfl 17 (by decide) (by decide +kernel) rfl rfl dX8_most_51 ?_
          obtain ⟨q_54, hq_54, h⟩ := og_b h
          refine ww_ci0 B (k' := 0) (n' := 0) rfl rfl [3, 4, 1] [0, 2] (wr := [(a_best, .inl (cI, 6, .inl f_best)), (a_may, .inl (cI, 6, .inl f_may))]) (st := []) rfl rfl (by decide) (rr_V B (c_X8_worthOf l D cI cZ a_t a_gives a_worths a_may b_voyage b_lucky b_ranks b_pad b_bears b_due b_borneBy b_gone b_sunk b_times b_whoBore a_gives a_best b_holds b_refused b_sums b_image b_isKept 6 q_33.2 f_worths x_t_signs x_t_day x_t_reason x_t_asked hq_54) gX8_most_X8_worthOf rfl rfl rfl (N := 1) rfl (by decide +kernel) ⟨Nat.le_of_ble_eq_true rfl, Nat.le_of_ble_eq_true rfl⟩ rfl dX8_most_54 0 rfl rfl (Nat.le_of_ble_eq_true rfl) ⟨Nat.le_of_ble_eq_true rfl, Nat.le_of_ble_eq_true rfl⟩) (ws' := [(a_best, .inl (cI, 6, .inl f_best)), (a_may, .inl (cI, 6, .inl f_may)), (a_t, .inr (8, [.ref a_may, .ref b_voyage, .ref b_lucky, .ref a_worths, .ref b_ranks, .int x_t_signs, .ref b_pad, .int x_t_day, .int x_t_reason, .ref b_bears, .ref b_due, .ref b_borneBy, .ref b_gone, .ref b_sunk, .ref b_times, .int x_t_asked, .ref b_whoBore, .ref a_gives, .ref a_best, .ref b_holds, .ref b_refused, .ref b_sums, .ref b_image, .ref b_isKept])), (a_gives, .inl (cI, 6, .inl q_33.2)), (a_worths, .inl (cI, 30, .inl f_worths))]) rfl ?_
          refine ww_istore B dX8_most_57 (lv' := [(8, .int q_54), (7, .int q_44), (0, .ref a_t), (1, .int v1), (2, .int v2), (3, .int v3), (4, .int v4), (5, .int v5), (6, .int v6)]) (by decide) rfl ?_
          refine ww_iload B dX8_most_59 1 rfl ?_
          refine ww_iload B dX8_most_61 6 rfl ?_
          refine ww_icmp_gt B 80 dX8_most_63 (by decide) (fun c_63 => ?_) (fun c_63 => ?_)
          · replace h := og_t c_63 h
            refine ww_sub (ws' := [(a_t, .inr (8, [.ref a_may, .ref b_voyage, .ref b_lucky, .ref a_worths, .ref b_ranks, .int x_t_signs, .ref b_pad, .int x_t_day, .int x_t_reason, .ref b_bears, .ref b_due, .ref b_borneBy, .ref b_gone, .ref b_sunk, .ref b_times, .int x_t_asked, .ref b_whoBore, .ref a_gives, .ref a_best, .ref b_holds, .ref b_refused, .ref b_sums, .ref b_image, .ref b_isKept])), (a_best, .inl (cI, 6, .inl f_best)), (a_gives, .inl (cI, 6, .inl q_33.2)), (a_may, .inl (cI, 6, .inl f_may)), (a_worths, .inl (cI, 30, .inl f_worths))]) [2, 0, 3, 1, 4] rfl (by decide) ?_
            refine ww_lsel (lv' := [(0, .ref a_t), (1, .int v1), (2, .int v2), (3, .int v3), (6, .int v6), (7, .int q_44), (8, .int q_54)]) [2, 3, 4, 5, 8, 1, 0] rfl ?_
            exact cut_80 _ _ _ _ _ _ _ _ h
          · replace h := og_f c_63 h
            refine ww_iload B dX8_most_66 1 rfl ?_
            refine ww_iload B dX8_most_68 6 rfl ?_
            refine ww_icmp_ne B 92 dX8_most_70 (by decide) (fun c_70 => ?_) (fun c_70 => ?_)
            · replace h := og_f c_70 h
              refine ww_sub (ws' := [(a_t, .inr (8, [.ref a_may, .ref b_voyage, .ref b_lucky, .ref a_worths, .ref b_ranks, .int x_t_signs, .ref b_pad, .int x_t_day, .int x_t_reason, .ref b_bears, .ref b_due, .ref b_borneBy, .ref b_gone, .ref b_sunk, .ref b_times, .int x_t_asked, .ref b_whoBore, .ref a_gives, .ref a_best, .ref b_holds, .ref b_refused, .ref b_sums, .ref b_image, .ref b_isKept])), (a_best, .inl (cI, 6, .inl f_best)), (a_gives, .inl (cI, 6, .inl q_33.2)), (a_may, .inl (cI, 6, .inl f_may)), (a_worths, .inl (cI, 30, .inl f_worths))]) [2, 0, 3, 1, 4] rfl (by decide) ?_
              refine ww_lsel (lv' := [(0, .ref a_t), (1, .int v1), (2, .int v2), (3, .int v3), (4, .int v4), (5, .int v5), (6, .int v6)]) [2, 3, 4, 5, 6, 7, 8] rfl ?_
              exact cut_92 _ _ _ _ _ _ _ _ h
            · replace h := og_t c_70 h
              refine ww_iload B dX8_most_73 0 rfl ?_
              refine ww_iload B dX8_most_75 7 rfl ?_
              refine ww_icmp_le B 92 dX8_most_77 (by decide) (fun c_77 => ?_) (fun c_77 => ?_)
              · replace h := og_t c_77 h
                refine ww_sub (ws' := [(a_t, .inr (8, [.ref a_may, .ref b_voyage, .ref b_lucky, .ref a_worths, .ref b_ranks, .int x_t_signs, .ref b_pad, .int x_t_day, .int x_t_reason, .ref b_bears, .ref b_due, .ref b_borneBy, .ref b_gone, .ref b_sunk, .ref b_times, .int x_t_asked, .ref b_whoBore, .ref a_gives, .ref a_best, .ref b_holds, .ref b_refused, .ref b_sums, .ref b_image, .ref b_isKept])), (a_best, .inl (cI, 6, .inl f_best)), (a_gives, .inl (cI, 6, .inl q_33.2)), (a_may, .inl (cI, 6, .inl f_may)), (a_worths, .inl (cI, 30, .inl f_worths))]) [2, 0, 3, 1, 4] rfl (by decide) ?_
                refine ww_lsel (lv' := [(0, .ref a_t), (1, .int v1), (2, .int v2), (3, .int v3), (4, .int v4), (5, .int v5), (6, .int v6)]) [2, 3, 4, 5, 6, 7, 8] rfl ?_
                exact cut_92 _ _ _ _ _ _ _ _ h
              · replace h := og_f c_77 h
                refine ww_sub (ws' := [(a_t, .inr (8, [.ref a_may, .ref b_voyage, .ref b_lucky, .ref a_worths, .ref b_ranks, .int x_t_signs, .ref b_pad, .int x_t_day, .int x_t_reason, .ref b_bears, .ref b_due, .ref b_borneBy, .ref b_gone, .ref b_sunk, .ref b_times, .int x_t_asked, .ref b_whoBore, .ref a_gives, .ref a_best, .ref b_holds, .ref b_refused, .ref b_sums, .ref b_image, .ref b_isKept])), (a_best, .inl (cI, 6, .inl f_best)), (a_gives, .inl (cI, 6, .inl q_33.2)), (a_may, .inl (cI, 6, .inl f_may)), (a_worths, .inl (cI, 30, .inl f_worths))]) [2, 0, 3, 1, 4] rfl (by decide) ?_
                refine ww_lsel (lv' := [(0, .ref a_t), (1, .int v1), (2, .int v2), (3, .int v3), (6, .int v6), (7, .int q_44), (8, .int q_54)]) [2, 3, 4, 5, 8, 1, 0] rfl ?_
                exact cut_80 _ _ _ _ _ _ _ _ h
  refine ww_iload_n B dX8_most_0 1 rfl ?_
  refine ww_iload_n B dX8_most_1 2 rfl ?_
  obtain ⟨q_2, hq_2, h⟩ := og_b h
  refine ww_ci0 B (k' := 0) (n' := 0) rfl rfl [] [0, 1, 2, 3, 4] (wr := [(a_t, .inr (8, [.ref a_may, .ref b_voyage, .ref b_lucky, .ref a_worths, .ref b_ranks, .int x_t_signs, .ref b_pad, .int x_t_day, .int x_t_reason, .ref b_bears, .ref b_due, .ref b_borneBy, .ref b_gone, .ref b_sunk, .ref b_times, .int x_t_asked, .ref b_whoBore, .ref a_gives, .ref a_best, .ref b_holds, .ref b_refused, .ref b_sums, .ref b_image, .ref b_isKept])), (a_best, .inl (cI, 6, .inl f_best)), (a_gives, .inl (cI, 6, .inl f_gives)), (a_may, .inl (cI, 6, .inl f_may)), (a_worths, .inl (cI, 30, .inl f_worths))]) (st := []) rfl rfl (by decide) (rr_S B (c_X8_areSets l D cI cZ v1 v2 hq_2) gX8_most_X8_areSets rfl rfl rfl (N := 2) rfl (by decide +kernel) ⟨Nat.le_of_ble_eq_true rfl, Nat.le_of_ble_eq_true rfl⟩ rfl dX8_most_2 (Nat.le_of_ble_eq_true rfl) ⟨Nat.le_of_ble_eq_true rfl, Nat.le_of_ble_eq_true rfl⟩) (ws' := [(a_t, .inr (8, [.ref a_may, .ref b_voyage, .ref b_lucky, .ref a_worths, .ref b_ranks, .int x_t_signs, .ref b_pad, .int x_t_day, .int x_t_reason, .ref b_bears, .ref b_due, .ref b_borneBy, .ref b_gone, .ref b_sunk, .ref b_times, .int x_t_asked, .ref b_whoBore, .ref a_gives, .ref a_best, .ref b_holds, .ref b_refused, .ref b_sums, .ref b_image, .ref b_isKept])), (a_best, .inl (cI, 6, .inl f_best)), (a_gives, .inl (cI, 6, .inl f_gives)), (a_may, .inl (cI, 6, .inl f_may)), (a_worths, .inl (cI, 30, .inl f_worths))]) rfl ?_
  refine ww_if_ne B 11 dX8_most_5 (by decide) (fun c_5 => ?_) (fun c_5 => ?_)
  · replace h := og_f c_5 h
    refine ww_bipush B dX8_most_11 (v := (-6)) (by decide) ?_
    refine ww_istore B dX8_most_13 (lv' := [(4, .int (-6)), (0, .ref a_t), (1, .int v1), (2, .int v2), (3, .int v3)]) (by decide) rfl ?_
    refine ww_iconst B dX8_most_15 (v := 0) (by decide) ?_
    refine ww_istore B dX8_most_16 (lv' := [(5, .int 0), (4, .int (-6)), (0, .ref a_t), (1, .int v1), (2, .int v2), (3, .int v3)]) (by decide) rfl ?_
    refine ww_iconst B dX8_most_18 (v := 0) (by decide) ?_
    refine ww_istore B dX8_most_19 (lv' := [(6, .int 0), (5, .int 0), (4, .int (-6)), (0, .ref a_t), (1, .int v1), (2, .int v2), (3, .int v3)]) (by decide) rfl ?_
    refine ww_lsel (lv' := [(0, .ref a_t), (1, .int v1), (2, .int v2), (3, .int v3), (4, .int (-6)), (5, .int 0), (6, .int 0)]) [3, 4, 5, 6, 2, 1, 0] rfl ?_
    exact cut_21 _ _ _ _ _ _ _ _ _ h
  · replace h := og_t c_5 h
    refine ww_bipush B dX8_most_8 (v := (-2)) (by decide) ?_
    exact ww_iret B hA hQ hr dX8_most_10 (f_best, f_gives) [0, 1, 2, 3, 4] rfl (by decide) (og_p h)
noncomputable def m_X8_rank_45 (k20 : Int32 → Int32 → Int32 → Int32 → (Nat → Int32) → Option (Int32 × ((Nat → Int32)))) (v1 : Int32) (v2 : Int32) (v4 : Int32) (s0 : Int32) (f_ranks : (Nat → Int32)) : Option (Int32 × ((Nat → Int32))) := ogl (v4 + 1) (fun (v4_46 : Int32) => (k20 v1 v2 s0 v4_46 f_ranks))
noncomputable def m_X8_rank_44 (k20 : Int32 → Int32 → Int32 → Int32 → (Nat → Int32) → Option (Int32 × ((Nat → Int32)))) (v1 : Int32) (v2 : Int32) (v4 : Int32) (f_ranks : (Nat → Int32)) : Option (Int32 × ((Nat → Int32))) := (m_X8_rank_45 k20 v1 v2 v4 0 f_ranks)
noncomputable def m_X8_rank_20b (k20 : Int32 → Int32 → Int32 → Int32 → (Nat → Int32) → Option (Int32 × ((Nat → Int32)))) (v1 : Int32) (v2 : Int32) (v3 : Int32) (v4 : Int32) (f_ranks : (Nat → Int32)) : Option (Int32 × ((Nat → Int32))) := if 6 ≤ v4 then (if v3 = 0 then (some ((-2), f_ranks)) else (ogi v1 5 (ogl (f_ranks (Int32.toNatClampNeg v1)) (fun (v4_65 : Int32) => ogi v1 5 (some (v4_65, (upd f_ranks (Int32.toNatClampNeg v1) v2))))))) else (if v3 = 0 then ((m_X8_rank_44 k20 v1 v2 v4 f_ranks)) else (ogb (m_X8_placeIn v2 v4) (fun q_34 => if q_34 < 0 then ((m_X8_rank_44 k20 v1 v2 v4 f_ranks)) else ((m_X8_rank_45 k20 v1 v2 v4 1 f_ranks)))))
noncomputable def m_X8_rank_20 (fuel : Nat) : Int32 → Int32 → Int32 → Int32 → (Nat → Int32) → Option (Int32 × ((Nat → Int32))) := Nat.rec (fun _ _ _ _ _ => none) (fun _ k20 => m_X8_rank_20b k20) fuel
noncomputable def m_X8_rank (f_ranks : (Nat → Int32)) (v1 : Int32) (v2 : Int32) : Option (Int32 × ((Nat → Int32))) := ogb (m_X8_isName v1) (fun q_1 => if q_1 = 0 then (some ((-1), f_ranks)) else (ogb (m_X8_in v2 0 999999) (fun q_13 => (m_X8_rank_20 1000000 v1 v2 q_13 0 f_ranks))))
set_option maxHeartbeats 4000000 in
set_option maxRecDepth 100000 in
theorem c_X8_rank (l : Launch) (D : va_G) (cI cZ : ClassId) (a_t a_ranks b_may b_voyage b_lucky b_worths b_pad b_bears b_due b_borneBy b_gone b_sunk b_times b_whoBore b_gives b_best b_holds b_refused b_sums b_image b_isKept : Nat) (f_ranks : (Nat → Int32)) (x_t_signs : Int32) (x_t_day : Int32) (x_t_reason : Int32) (x_t_asked : Int32) (v1 : Int32) (v2 : Int32) {res : (Int32 × ((Nat → Int32)))} (h : m_X8_rank f_ranks v1 v2 = some res) : CT l yX8_rank wsX8_rank ({ frames := 2, cells := 0, slots := 0, locals := 42 } : Room) D cI cZ [.ref a_t, .int v1, .int v2] [(a_t, .inr (8, [.ref b_may, .ref b_voyage, .ref b_lucky, .ref b_worths, .ref a_ranks, .int x_t_signs, .ref b_pad, .int x_t_day, .int x_t_reason, .ref b_bears, .ref b_due, .ref b_borneBy, .ref b_gone, .ref b_sunk, .ref b_times, .int x_t_asked, .ref b_whoBore, .ref b_gives, .ref b_best, .ref b_holds, .ref b_refused, .ref b_sums, .ref b_image, .ref b_isKept])), (a_ranks, .inl (cI, 5, .inl f_ranks))] (QI D [(a_t, .inr (8, [.ref b_may, .ref b_voyage, .ref b_lucky, .ref b_worths, .ref a_ranks, .int x_t_signs, .ref b_pad, .int x_t_day, .int x_t_reason, .ref b_bears, .ref b_due, .ref b_borneBy, .ref b_gone, .ref b_sunk, .ref b_times, .int x_t_asked, .ref b_whoBore, .ref b_gives, .ref b_best, .ref b_holds, .ref b_refused, .ref b_sums, .ref b_image, .ref b_isKept])), (a_ranks, .inl (cI, 5, .inl f_ranks))] (fun (r : Int32) (u : (Nat → Int32)) => r = res.1 ∧ u = res.2) (fun (u : (Nat → Int32)) => [(a_t, .inr (8, [.ref b_may, .ref b_voyage, .ref b_lucky, .ref b_worths, .ref a_ranks, .int x_t_signs, .ref b_pad, .int x_t_day, .int x_t_reason, .ref b_bears, .ref b_due, .ref b_borneBy, .ref b_gone, .ref b_sunk, .ref b_times, .int x_t_asked, .ref b_whoBore, .ref b_gives, .ref b_best, .ref b_holds, .ref b_refused, .ref b_sums, .ref b_image, .ref b_isKept])), (a_ranks, .inl (cI, 5, .inl u))])) 0 0 := by
  have h : (ogb (m_X8_isName v1) (fun q_1 => if q_1 = 0 then (some ((-1), f_ranks)) else (ogb (m_X8_in v2 0 999999) (fun q_13 => (m_X8_rank_20 1000000 v1 v2 q_13 0 f_ranks)))) : Option (Int32 × ((Nat → Int32)))) = some res := h
  refine ct_entry (cc := cX8_rank) (nl := 5) (ret := (some .int)) (own := RX8) (lv0 := [(0, .ref a_t), (1, .int v1), (2, .int v2)]) (by decide) rfl rfl (Nat.le_of_ble_eq_true rfl) rfl ?_
  intro p e s m args below meth c A Q hA hQ hr hnm B
  have iX8 : ∀ w ∈ wsX80, w ∈ wsX8_rank := by decide +kernel
  have cut_20 : ∀ (fuel : Nat) (v1 : Int32) (v2 : Int32) (v3 : Int32) (v4 : Int32) (f_ranks : (Nat → Int32)), m_X8_rank_20 fuel v1 v2 v3 v4 f_ranks = some res → WW p l e (headSpec wsX8_rank ({ frames := 2, cells := 0, slots := 0, locals := 42 } : Room)).room s m args below meth c D A 5 0 0 Q [(a_t, .inr (8, [.ref b_may, .ref b_voyage, .ref b_lucky, .ref b_worths, .ref a_ranks, .int x_t_signs, .ref b_pad, .int x_t_day, .int x_t_reason, .ref b_bears, .ref b_due, .ref b_borneBy, .ref b_gone, .ref b_sunk, .ref b_times, .int x_t_asked, .ref b_whoBore, .ref b_gives, .ref b_best, .ref b_holds, .ref b_refused, .ref b_sums, .ref b_image, .ref b_isKept])), (a_ranks, .inl (cI, 5, .inl f_ranks))] [(0, .ref a_t), (1, .int v1), (2, .int v2), (3, .int v3), (4, .int v4)] [] 20 := by
    intro fuel_20
    induction fuel_20 with
    | zero => intro v1 v2 v3 v4 f_ranks h; exact og_0 h
    | succ fuel_20 ih_20 =>
      have cut_45 : ∀ (v1 : Int32) (v2 : Int32) (v4 : Int32) (s0 : Int32) (f_ranks : (Nat → Int32)), m_X8_rank_45 (m_X8_rank_20 fuel_20) v1 v2 v4 s0 f_ranks = some res → WW p l e (headSpec wsX8_rank ({ frames := 2, cells := 0, slots := 0, locals := 42 } : Room)).room s m args below meth c D A 5 0 0 Q [(a_t, .inr (8, [.ref b_may, .ref b_voyage, .ref b_lucky, .ref b_worths, .ref a_ranks, .int x_t_signs, .ref b_pad, .int x_t_day, .int x_t_reason, .ref b_bears, .ref b_due, .ref b_borneBy, .ref b_gone, .ref b_sunk, .ref b_times, .int x_t_asked, .ref b_whoBore, .ref b_gives, .ref b_best, .ref b_holds, .ref b_refused, .ref b_sums, .ref b_image, .ref b_isKept])), (a_ranks, .inl (cI, 5, .inl f_ranks))] [(0, .ref a_t), (1, .int v1), (2, .int v2), (4, .int v4)] [.int s0] 45 := by
        intro v1 v2 v4 s0 f_ranks h
        replace h : (ogl (v4 + 1) (fun (v4_46 : Int32) => ((m_X8_rank_20 fuel_20) v1 v2 s0 v4_46 f_ranks)) : Option (Int32 × ((Nat → Int32)))) = some res := h
        refine ww_istore_n B dX8_rank_45 (lv' := [(3, .int s0), (0, .ref a_t), (1, .int v1), (2, .int v2), (4, .int v4)]) (by decide) rfl ?_
        obtain ⟨v4_46, ev4_46⟩ : ∃ y : Int32, y = (v4 + 1) := ⟨_, rfl⟩
        refine ww_iinc B dX8_rank_46 4 rfl (v := v4_46) (by rw [ev4_46]; rfl) (by decide) (lv' := [(4, .int v4_46), (3, .int s0), (0, .ref a_t), (1, .int v1), (2, .int v2)]) rfl ?_
        replace h := og_l ev4_46 h
        refine ww_goto B 20 dX8_rank_49 (by decide) ?_
        refine ww_lsel (lv' := [(0, .ref a_t), (1, .int v1), (2, .int v2), (3, .int s0), (4, .int v4_46)]) [2, 3, 4, 1, 0] rfl ?_
        exact ih_20 _ _ _ _ _ h
      have cut_44 : ∀ (v1 : Int32) (v2 : Int32) (v4 : Int32) (f_ranks : (Nat → Int32)), m_X8_rank_44 (m_X8_rank_20 fuel_20) v1 v2 v4 f_ranks = some res → WW p l e (headSpec wsX8_rank ({ frames := 2, cells := 0, slots := 0, locals := 42 } : Room)).room s m args below meth c D A 5 0 0 Q [(a_t, .inr (8, [.ref b_may, .ref b_voyage, .ref b_lucky, .ref b_worths, .ref a_ranks, .int x_t_signs, .ref b_pad, .int x_t_day, .int x_t_reason, .ref b_bears, .ref b_due, .ref b_borneBy, .ref b_gone, .ref b_sunk, .ref b_times, .int x_t_asked, .ref b_whoBore, .ref b_gives, .ref b_best, .ref b_holds, .ref b_refused, .ref b_sums, .ref b_image, .ref b_isKept])), (a_ranks, .inl (cI, 5, .inl f_ranks))] [(0, .ref a_t), (1, .int v1), (2, .int v2), (4, .int v4)] [] 44 := by
        intro v1 v2 v4 f_ranks h
        replace h : ((m_X8_rank_45 (m_X8_rank_20 fuel_20) v1 v2 v4 0 f_ranks) : Option (Int32 × ((Nat → Int32)))) = some res := h
        refine ww_iconst B dX8_rank_44 (v := 0) (by decide) ?_
        exact cut_45 _ _ _ _ _ h
      intro v1 v2 v3 v4 f_ranks h
      replace h : (if 6 ≤ v4 then (if v3 = 0 then (some ((-2), f_ranks)) else (ogi v1 5 (ogl (f_ranks (Int32.toNatClampNeg v1)) (fun (v4_65 : Int32) => ogi v1 5 (some (v4_65, (upd f_ranks (Int32.toNatClampNeg v1) v2))))))) else (if v3 = 0 then ((m_X8_rank_44 (m_X8_rank_20 fuel_20) v1 v2 v4 f_ranks)) else (ogb (m_X8_placeIn v2 v4) (fun q_34 => if q_34 < 0 then ((m_X8_rank_44 (m_X8_rank_20 fuel_20) v1 v2 v4 f_ranks)) else ((m_X8_rank_45 (m_X8_rank_20 fuel_20) v1 v2 v4 1 f_ranks))))) : Option (Int32 × ((Nat → Int32)))) = some res := h
      refine ww_iload B dX8_rank_20 4 rfl ?_
      refine ww_bipush B dX8_rank_22 (v := 6) (by decide) ?_
      refine ww_icmp_ge B 52 dX8_rank_24 (by decide) (fun c_24 => ?_) (fun c_24 => ?_)
      · replace h := og_t c_24 h
        refine ww_iload_n B dX8_rank_52 3 rfl ?_
        refine ww_if_ne B 59 dX8_rank_53 (by decide) (fun c_53 => ?_) (fun c_53 => ?_)
        · replace h := og_f c_53 h
          refine ww_aload_n B dX8_rank_59 0 rfl ?_
          refine ww_get (ci := 8) (T := TX8) (C := RX8) (N := 24) B iX8 0 rfl rfl 4 (by decide) (by decide +kernel) rfl rfl dX8_rank_60 ?_
          refine ww_iload_n B dX8_rank_63 1 rfl ?_
          obtain ⟨i_64, h⟩ := og_i h
          refine ww_iald B 1 rfl i_64 dX8_rank_64 ?_
          refine ww_topi (fun v4_65 ev4_65 => ?_)
          replace h := og_l ev4_65 h
          refine ww_istore B dX8_rank_65 (lv' := [(4, .int v4_65), (0, .ref a_t), (1, .int v1), (2, .int v2), (3, .int v3)]) (by decide) rfl ?_
          refine ww_aload_n B dX8_rank_67 1 rfl ?_
          refine ww_get (ci := 8) (T := TX8) (C := RX8) (N := 24) B iX8 0 rfl rfl 4 (by decide) (by decide +kernel) rfl rfl dX8_rank_68 ?_
          refine ww_iload_n B dX8_rank_71 2 rfl ?_
          refine ww_iload_n B dX8_rank_72 3 rfl ?_
          obtain ⟨i_73, h⟩ := og_i h
          refine ww_iast B 1 rfl i_73 dX8_rank_73 (ws' := [(a_t, .inr (8, [.ref b_may, .ref b_voyage, .ref b_lucky, .ref b_worths, .ref a_ranks, .int x_t_signs, .ref b_pad, .int x_t_day, .int x_t_reason, .ref b_bears, .ref b_due, .ref b_borneBy, .ref b_gone, .ref b_sunk, .ref b_times, .int x_t_asked, .ref b_whoBore, .ref b_gives, .ref b_best, .ref b_holds, .ref b_refused, .ref b_sums, .ref b_image, .ref b_isKept])), (a_ranks, .inl (cI, 5, .inl (upd f_ranks (Int32.toNatClampNeg v1) v2)))]) rfl ?_
          refine ww_iload B dX8_rank_74 0 rfl ?_
          exact ww_iret B hA hQ hr dX8_rank_76 (upd f_ranks (Int32.toNatClampNeg v1) v2) [0, 1] rfl (by decide) (og_p h)
        · replace h := og_t c_53 h
          refine ww_bipush B dX8_rank_56 (v := (-2)) (by decide) ?_
          exact ww_iret B hA hQ hr dX8_rank_58 f_ranks [0, 1] rfl (by decide) (og_p h)
      · replace h := og_f c_24 h
        refine ww_iload_n B dX8_rank_27 3 rfl ?_
        refine ww_if_eq B 44 dX8_rank_28 (by decide) (fun c_28 => ?_) (fun c_28 => ?_)
        · replace h := og_t c_28 h
          refine ww_lsel (lv' := [(0, .ref a_t), (1, .int v1), (2, .int v2), (4, .int v4)]) [0, 1, 2, 4] rfl ?_
          exact cut_44 _ _ _ _ h
        · replace h := og_f c_28 h
          refine ww_iload_n B dX8_rank_31 2 rfl ?_
          refine ww_iload B dX8_rank_32 4 rfl ?_
          obtain ⟨q_34, hq_34, h⟩ := og_b h
          refine ww_ci0 B (k' := 0) (n' := 0) rfl rfl [] [0, 1] (wr := [(a_t, .inr (8, [.ref b_may, .ref b_voyage, .ref b_lucky, .ref b_worths, .ref a_ranks, .int x_t_signs, .ref b_pad, .int x_t_day, .int x_t_reason, .ref b_bears, .ref b_due, .ref b_borneBy, .ref b_gone, .ref b_sunk, .ref b_times, .int x_t_asked, .ref b_whoBore, .ref b_gives, .ref b_best, .ref b_holds, .ref b_refused, .ref b_sums, .ref b_image, .ref b_isKept])), (a_ranks, .inl (cI, 5, .inl f_ranks))]) (st := []) rfl rfl (by decide) (rr_S B (c_X8_placeIn l D cI cZ v2 v4 hq_34) gX8_rank_X8_placeIn rfl rfl rfl (N := 2) rfl (by decide +kernel) ⟨Nat.le_of_ble_eq_true rfl, Nat.le_of_ble_eq_true rfl⟩ rfl dX8_rank_34 (Nat.le_of_ble_eq_true rfl) ⟨Nat.le_of_ble_eq_true rfl, Nat.le_of_ble_eq_true rfl⟩) (ws' := [(a_t, .inr (8, [.ref b_may, .ref b_voyage, .ref b_lucky, .ref b_worths, .ref a_ranks, .int x_t_signs, .ref b_pad, .int x_t_day, .int x_t_reason, .ref b_bears, .ref b_due, .ref b_borneBy, .ref b_gone, .ref b_sunk, .ref b_times, .int x_t_asked, .ref b_whoBore, .ref b_gives, .ref b_best, .ref b_holds, .ref b_refused, .ref b_sums, .ref b_image, .ref b_isKept])), (a_ranks, .inl (cI, 5, .inl f_ranks))]) rfl ?_
          refine ww_if_lt B 44 dX8_rank_37 (by decide) (fun c_37 => ?_) (fun c_37 => ?_)
          · replace h := og_t c_37 h
            refine ww_lsel (lv' := [(0, .ref a_t), (1, .int v1), (2, .int v2), (4, .int v4)]) [0, 1, 2, 4] rfl ?_
            exact cut_44 _ _ _ _ h
          · replace h := og_f c_37 h
            refine ww_iconst B dX8_rank_40 (v := 1) (by decide) ?_
            refine ww_goto B 45 dX8_rank_41 (by decide) ?_
            refine ww_lsel (lv' := [(0, .ref a_t), (1, .int v1), (2, .int v2), (4, .int v4)]) [0, 1, 2, 4] rfl ?_
            exact cut_45 _ _ _ _ _ h
  refine ww_iload_n B dX8_rank_0 1 rfl ?_
  obtain ⟨q_1, hq_1, h⟩ := og_b h
  refine ww_ci0 B (k' := 0) (n' := 0) rfl rfl [] [0, 1] (wr := [(a_t, .inr (8, [.ref b_may, .ref b_voyage, .ref b_lucky, .ref b_worths, .ref a_ranks, .int x_t_signs, .ref b_pad, .int x_t_day, .int x_t_reason, .ref b_bears, .ref b_due, .ref b_borneBy, .ref b_gone, .ref b_sunk, .ref b_times, .int x_t_asked, .ref b_whoBore, .ref b_gives, .ref b_best, .ref b_holds, .ref b_refused, .ref b_sums, .ref b_image, .ref b_isKept])), (a_ranks, .inl (cI, 5, .inl f_ranks))]) (st := []) rfl rfl (by decide) (rr_S B (c_X8_isName l D cI cZ v1 hq_1) gX8_rank_X8_isName rfl rfl rfl (N := 1) rfl (by decide +kernel) ⟨Nat.le_of_ble_eq_true rfl, Nat.le_of_ble_eq_true rfl⟩ rfl dX8_rank_1 (Nat.le_of_ble_eq_true rfl) ⟨Nat.le_of_ble_eq_true rfl, Nat.le_of_ble_eq_true rfl⟩) (ws' := [(a_t, .inr (8, [.ref b_may, .ref b_voyage, .ref b_lucky, .ref b_worths, .ref a_ranks, .int x_t_signs, .ref b_pad, .int x_t_day, .int x_t_reason, .ref b_bears, .ref b_due, .ref b_borneBy, .ref b_gone, .ref b_sunk, .ref b_times, .int x_t_asked, .ref b_whoBore, .ref b_gives, .ref b_best, .ref b_holds, .ref b_refused, .ref b_sums, .ref b_image, .ref b_isKept])), (a_ranks, .inl (cI, 5, .inl f_ranks))]) rfl ?_
  refine ww_if_ne B 9 dX8_rank_4 (by decide) (fun c_4 => ?_) (fun c_4 => ?_)
  · replace h := og_f c_4 h
    refine ww_iload_n B dX8_rank_9 2 rfl ?_
    refine ww_iconst B dX8_rank_10 (v := 0) (by decide) ?_
    refine ww_ldc B (v := 999999) (by decide +kernel) dX8_rank_11 ?_
    obtain ⟨q_13, hq_13, h⟩ := og_b h
    refine ww_ci0 B (k' := 0) (n' := 0) rfl rfl [] [0, 1] (wr := [(a_t, .inr (8, [.ref b_may, .ref b_voyage, .ref b_lucky, .ref b_worths, .ref a_ranks, .int x_t_signs, .ref b_pad, .int x_t_day, .int x_t_reason, .ref b_bears, .ref b_due, .ref b_borneBy, .ref b_gone, .ref b_sunk, .ref b_times, .int x_t_asked, .ref b_whoBore, .ref b_gives, .ref b_best, .ref b_holds, .ref b_refused, .ref b_sums, .ref b_image, .ref b_isKept])), (a_ranks, .inl (cI, 5, .inl f_ranks))]) (st := []) rfl rfl (by decide) (rr_S B (c_X8_in l D cI cZ v2 0 999999 hq_13) gX8_rank_X8_in rfl rfl rfl (N := 3) rfl (by decide +kernel) ⟨Nat.le_of_ble_eq_true rfl, Nat.le_of_ble_eq_true rfl⟩ rfl dX8_rank_13 (Nat.le_of_ble_eq_true rfl) ⟨Nat.le_of_ble_eq_true rfl, Nat.le_of_ble_eq_true rfl⟩) (ws' := [(a_t, .inr (8, [.ref b_may, .ref b_voyage, .ref b_lucky, .ref b_worths, .ref a_ranks, .int x_t_signs, .ref b_pad, .int x_t_day, .int x_t_reason, .ref b_bears, .ref b_due, .ref b_borneBy, .ref b_gone, .ref b_sunk, .ref b_times, .int x_t_asked, .ref b_whoBore, .ref b_gives, .ref b_best, .ref b_holds, .ref b_refused, .ref b_sums, .ref b_image, .ref b_isKept])), (a_ranks, .inl (cI, 5, .inl f_ranks))]) rfl ?_
    refine ww_istore_n B dX8_rank_16 (lv' := [(3, .int q_13), (0, .ref a_t), (1, .int v1), (2, .int v2)]) (by decide) rfl ?_
    refine ww_iconst B dX8_rank_17 (v := 0) (by decide) ?_
    refine ww_istore B dX8_rank_18 (lv' := [(4, .int 0), (3, .int q_13), (0, .ref a_t), (1, .int v1), (2, .int v2)]) (by decide) rfl ?_
    refine ww_lsel (lv' := [(0, .ref a_t), (1, .int v1), (2, .int v2), (3, .int q_13), (4, .int 0)]) [2, 3, 4, 1, 0] rfl ?_
    exact cut_20 _ _ _ _ _ _ h
  · replace h := og_t c_4 h
    refine ww_iconst B dX8_rank_7 (v := (-1)) (by decide) ?_
    exact ww_iret B hA hQ hr dX8_rank_8 f_ranks [0, 1] rfl (by decide) (og_p h)
noncomputable def m_X8_restore_123b (k123 : Int32 → Int32 → (Nat → Int32) → (Nat → Int32) → (Nat → Int32) → (Nat → Int32) → (Nat → Int32) → Option (Int32 × ((Nat → Int32) × (Nat → Int32) × (Nat → Int32) × (Nat → Int32) × (Nat → Int32)))) (f_image : (Nat → Int32)) (f_isKept : (Nat → Int32)) (v2 : Int32) (v3 : Int32) (f_lucky : (Nat → Int32)) (f_may : (Nat → Int32)) (f_ranks : (Nat → Int32)) (f_voyage : (Nat → Int32)) (f_worths : (Nat → Int32)) : Option (Int32 × ((Nat → Int32) × (Nat → Int32) × (Nat → Int32) × (Nat → Int32) × (Nat → Int32))) := if 30 ≤ v3 then (some (1, (f_lucky, f_may, f_ranks, f_voyage, f_worths))) else (ogi ((v2 + 22) + v3) 104 (ogi v3 30 (ogl (v3 + 1) (fun (v3_146 : Int32) => (k123 v2 v3_146 f_lucky f_may f_ranks f_voyage (upd f_worths (Int32.toNatClampNeg v3) (f_image (Int32.toNatClampNeg ((v2 + 22) + v3)))))))))
noncomputable def m_X8_restore_123 (f_image : (Nat → Int32)) (f_isKept : (Nat → Int32)) (fuel : Nat) : Int32 → Int32 → (Nat → Int32) → (Nat → Int32) → (Nat → Int32) → (Nat → Int32) → (Nat → Int32) → Option (Int32 × ((Nat → Int32) × (Nat → Int32) × (Nat → Int32) × (Nat → Int32) × (Nat → Int32))) := Nat.rec (fun _ _ _ _ _ _ _ => none) (fun _ k123 => m_X8_restore_123b k123 f_image f_isKept) fuel
noncomputable def m_X8_restore_76b (k76 : Int32 → Int32 → (Nat → Int32) → (Nat → Int32) → (Nat → Int32) → (Nat → Int32) → (Nat → Int32) → Option (Int32 × ((Nat → Int32) × (Nat → Int32) × (Nat → Int32) × (Nat → Int32) × (Nat → Int32)))) (f_image : (Nat → Int32)) (f_isKept : (Nat → Int32)) (v2 : Int32) (v3 : Int32) (f_lucky : (Nat → Int32)) (f_may : (Nat → Int32)) (f_ranks : (Nat → Int32)) (f_voyage : (Nat → Int32)) (f_worths : (Nat → Int32)) : Option (Int32 × ((Nat → Int32) × (Nat → Int32) × (Nat → Int32) × (Nat → Int32) × (Nat → Int32))) := if 5 ≤ v3 then ((m_X8_restore_123 f_image f_isKept 1000000 v2 0 f_lucky f_may f_ranks f_voyage f_worths)) else (ogi ((v2 + 12) + v3) 104 (ogi v3 5 (ogi ((v2 + 17) + v3) 104 (ogi v3 5 (ogl (v3 + 1) (fun (v3_115 : Int32) => (k76 v2 v3_115 (upd f_lucky (Int32.toNatClampNeg v3) (f_image (Int32.toNatClampNeg ((v2 + 12) + v3)))) f_may (upd f_ranks (Int32.toNatClampNeg v3) (f_image (Int32.toNatClampNeg ((v2 + 17) + v3)))) f_voyage f_worths)))))))
noncomputable def m_X8_restore_76 (f_image : (Nat → Int32)) (f_isKept : (Nat → Int32)) (fuel : Nat) : Int32 → Int32 → (Nat → Int32) → (Nat → Int32) → (Nat → Int32) → (Nat → Int32) → (Nat → Int32) → Option (Int32 × ((Nat → Int32) × (Nat → Int32) × (Nat → Int32) × (Nat → Int32) × (Nat → Int32))) := Nat.rec (fun _ _ _ _ _ _ _ => none) (fun _ k76 => m_X8_restore_76b k76 f_image f_isKept) fuel
noncomputable def m_X8_restore_31b (k31 : Int32 → Int32 → (Nat → Int32) → (Nat → Int32) → (Nat → Int32) → (Nat → Int32) → (Nat → Int32) → Option (Int32 × ((Nat → Int32) × (Nat → Int32) × (Nat → Int32) × (Nat → Int32) × (Nat → Int32)))) (f_image : (Nat → Int32)) (f_isKept : (Nat → Int32)) (v2 : Int32) (v3 : Int32) (f_lucky : (Nat → Int32)) (f_may : (Nat → Int32)) (f_ranks : (Nat → Int32)) (f_voyage : (Nat → Int32)) (f_worths : (Nat → Int32)) : Option (Int32 × ((Nat → Int32) × (Nat → Int32) × (Nat → Int32) × (Nat → Int32) × (Nat → Int32))) := if 6 ≤ v3 then ((m_X8_restore_76 f_image f_isKept 1000000 v2 0 f_lucky f_may f_ranks f_voyage f_worths)) else (ogi (v2 + v3) 104 (ogi v3 6 (ogi ((v2 + 6) + v3) 104 (ogi v3 6 (ogl (v3 + 1) (fun (v3_68 : Int32) => (k31 v2 v3_68 f_lucky (upd f_may (Int32.toNatClampNeg v3) (f_image (Int32.toNatClampNeg (v2 + v3)))) f_ranks (upd f_voyage (Int32.toNatClampNeg v3) (f_image (Int32.toNatClampNeg ((v2 + 6) + v3)))) f_worths)))))))
noncomputable def m_X8_restore_31 (f_image : (Nat → Int32)) (f_isKept : (Nat → Int32)) (fuel : Nat) : Int32 → Int32 → (Nat → Int32) → (Nat → Int32) → (Nat → Int32) → (Nat → Int32) → (Nat → Int32) → Option (Int32 × ((Nat → Int32) × (Nat → Int32) × (Nat → Int32) × (Nat → Int32) × (Nat → Int32))) := Nat.rec (fun _ _ _ _ _ _ _ => none) (fun _ k31 => m_X8_restore_31b k31 f_image f_isKept) fuel
noncomputable def m_X8_restore (f_image : (Nat → Int32)) (f_isKept : (Nat → Int32)) (f_lucky : (Nat → Int32)) (f_may : (Nat → Int32)) (f_ranks : (Nat → Int32)) (f_voyage : (Nat → Int32)) (f_worths : (Nat → Int32)) (v1 : Int32) : Option (Int32 × ((Nat → Int32) × (Nat → Int32) × (Nat → Int32) × (Nat → Int32) × (Nat → Int32))) := ogb (m_X8_in v1 0 1) (fun q_3 => if q_3 = 0 then (some ((-2), (f_lucky, f_may, f_ranks, f_voyage, f_worths))) else (ogi v1 2 (if (f_isKept (Int32.toNatClampNeg v1)) = 0 then (some ((-3), (f_lucky, f_may, f_ranks, f_voyage, f_worths))) else (ogl (52 * v1) (fun (v2_28 : Int32) => (m_X8_restore_31 f_image f_isKept 1000000 v2_28 0 f_lucky f_may f_ranks f_voyage f_worths))))))
set_option maxHeartbeats 4000000 in
set_option maxRecDepth 100000 in
theorem c_X8_restore (l : Launch) (D : va_G) (cI cZ : ClassId) (a_t a_image a_isKept a_lucky a_may a_ranks a_voyage a_worths b_pad b_bears b_due b_borneBy b_gone b_sunk b_times b_whoBore b_gives b_best b_holds b_refused b_sums : Nat) (f_image : (Nat → Int32)) (f_isKept : (Nat → Int32)) (f_lucky : (Nat → Int32)) (f_may : (Nat → Int32)) (f_ranks : (Nat → Int32)) (f_voyage : (Nat → Int32)) (f_worths : (Nat → Int32)) (x_t_signs : Int32) (x_t_day : Int32) (x_t_reason : Int32) (x_t_asked : Int32) (v1 : Int32) {res : (Int32 × ((Nat → Int32) × (Nat → Int32) × (Nat → Int32) × (Nat → Int32) × (Nat → Int32)))} (h : m_X8_restore f_image f_isKept f_lucky f_may f_ranks f_voyage f_worths v1 = some res) : CT l yX8_restore wsX8_restore ({ frames := 1, cells := 0, slots := 0, locals := 22 } : Room) D cI cZ [.ref a_t, .int v1] [(a_t, .inr (8, [.ref a_may, .ref a_voyage, .ref a_lucky, .ref a_worths, .ref a_ranks, .int x_t_signs, .ref b_pad, .int x_t_day, .int x_t_reason, .ref b_bears, .ref b_due, .ref b_borneBy, .ref b_gone, .ref b_sunk, .ref b_times, .int x_t_asked, .ref b_whoBore, .ref b_gives, .ref b_best, .ref b_holds, .ref b_refused, .ref b_sums, .ref a_image, .ref a_isKept])), (a_image, .inl (cI, 104, .inl f_image)), (a_isKept, .inl (cZ, 2, .inl f_isKept)), (a_lucky, .inl (cI, 5, .inl f_lucky)), (a_may, .inl (cI, 6, .inl f_may)), (a_ranks, .inl (cI, 5, .inl f_ranks)), (a_voyage, .inl (cI, 6, .inl f_voyage)), (a_worths, .inl (cI, 30, .inl f_worths))] (QI D [(a_t, .inr (8, [.ref a_may, .ref a_voyage, .ref a_lucky, .ref a_worths, .ref a_ranks, .int x_t_signs, .ref b_pad, .int x_t_day, .int x_t_reason, .ref b_bears, .ref b_due, .ref b_borneBy, .ref b_gone, .ref b_sunk, .ref b_times, .int x_t_asked, .ref b_whoBore, .ref b_gives, .ref b_best, .ref b_holds, .ref b_refused, .ref b_sums, .ref a_image, .ref a_isKept])), (a_image, .inl (cI, 104, .inl f_image)), (a_isKept, .inl (cZ, 2, .inl f_isKept)), (a_lucky, .inl (cI, 5, .inl f_lucky)), (a_may, .inl (cI, 6, .inl f_may)), (a_ranks, .inl (cI, 5, .inl f_ranks)), (a_voyage, .inl (cI, 6, .inl f_voyage)), (a_worths, .inl (cI, 30, .inl f_worths))] (fun (r : Int32) (u : (Nat → Int32) × (Nat → Int32) × (Nat → Int32) × (Nat → Int32) × (Nat → Int32)) => r = res.1 ∧ u = res.2) (fun (u : (Nat → Int32) × (Nat → Int32) × (Nat → Int32) × (Nat → Int32) × (Nat → Int32)) => [(a_t, .inr (8, [.ref a_may, .ref a_voyage, .ref a_lucky, .ref a_worths, .ref a_ranks, .int x_t_signs, .ref b_pad, .int x_t_day, .int x_t_reason, .ref b_bears, .ref b_due, .ref b_borneBy, .ref b_gone, .ref b_sunk, .ref b_times, .int x_t_asked, .ref b_whoBore, .ref b_gives, .ref b_best, .ref b_holds, .ref b_refused, .ref b_sums, .ref a_image, .ref a_isKept])), (a_image, .inl (cI, 104, .inl f_image)), (a_isKept, .inl (cZ, 2, .inl f_isKept)), (a_lucky, .inl (cI, 5, .inl u.1)), (a_may, .inl (cI, 6, .inl u.2.1)), (a_ranks, .inl (cI, 5, .inl u.2.2.1)), (a_voyage, .inl (cI, 6, .inl u.2.2.2.1)), (a_worths, .inl (cI, 30, .inl u.2.2.2.2))])) 0 0 := by
  have h : (ogb (m_X8_in v1 0 1) (fun q_3 => if q_3 = 0 then (some ((-2), (f_lucky, f_may, f_ranks, f_voyage, f_worths))) else (ogi v1 2 (if (f_isKept (Int32.toNatClampNeg v1)) = 0 then (some ((-3), (f_lucky, f_may, f_ranks, f_voyage, f_worths))) else (ogl (52 * v1) (fun (v2_28 : Int32) => (m_X8_restore_31 f_image f_isKept 1000000 v2_28 0 f_lucky f_may f_ranks f_voyage f_worths)))))) : Option (Int32 × ((Nat → Int32) × (Nat → Int32) × (Nat → Int32) × (Nat → Int32) × (Nat → Int32)))) = some res := h
  refine ct_entry (cc := cX8_restore) (nl := 4) (ret := (some .int)) (own := RX8) (lv0 := [(0, .ref a_t), (1, .int v1)]) (by decide) rfl rfl (Nat.le_of_ble_eq_true rfl) rfl ?_
  intro p e s m args below meth c A Q hA hQ hr hnm B
  have iX8 : ∀ w ∈ wsX80, w ∈ wsX8_restore := by decide +kernel
  have cut_123 : ∀ (fuel : Nat) (v2 : Int32) (v3 : Int32) (f_lucky : (Nat → Int32)) (f_may : (Nat → Int32)) (f_ranks : (Nat → Int32)) (f_voyage : (Nat → Int32)) (f_worths : (Nat → Int32)), m_X8_restore_123 f_image f_isKept fuel v2 v3 f_lucky f_may f_ranks f_voyage f_worths = some res → WW p l e (headSpec wsX8_restore ({ frames := 1, cells := 0, slots := 0, locals := 22 } : Room)).room s m args below meth c D A 4 0 0 Q [(a_t, .inr (8, [.ref a_may, .ref a_voyage, .ref a_lucky, .ref a_worths, .ref a_ranks, .int x_t_signs, .ref b_pad, .int x_t_day, .int x_t_reason, .ref b_bears, .ref b_due, .ref b_borneBy, .ref b_gone, .ref b_sunk, .ref b_times, .int x_t_asked, .ref b_whoBore, .ref b_gives, .ref b_best, .ref b_holds, .ref b_refused, .ref b_sums, .ref a_image, .ref a_isKept])), (a_image, .inl (cI, 104, .inl f_image)), (a_isKept, .inl (cZ, 2, .inl f_isKept)), (a_lucky, .inl (cI, 5, .inl f_lucky)), (a_may, .inl (cI, 6, .inl f_may)), (a_ranks, .inl (cI, 5, .inl f_ranks)), (a_voyage, .inl (cI, 6, .inl f_voyage)), (a_worths, .inl (cI, 30, .inl f_worths))] [(0, .ref a_t), (2, .int v2), (3, .int v3)] [] 123 := by
    intro fuel_123
    induction fuel_123 with
    | zero => intro v2 v3 f_lucky f_may f_ranks f_voyage f_worths h; exact og_0 h
    | succ fuel_123 ih_123 =>
      intro v2 v3 f_lucky f_may f_ranks f_voyage f_worths h
      replace h : (if 30 ≤ v3 then (some (1, (f_lucky, f_may, f_ranks, f_voyage, f_worths))) else (ogi ((v2 + 22) + v3) 104 (ogi v3 30 (ogl (v3 + 1) (fun (v3_146 : Int32) => ((m_X8_restore_123 f_image f_isKept fuel_123) v2 v3_146 f_lucky f_may f_ranks f_voyage (upd f_worths (Int32.toNatClampNeg v3) (f_image (Int32.toNatClampNeg ((v2 + 22) + v3))))))))) : Option (Int32 × ((Nat → Int32) × (Nat → Int32) × (Nat → Int32) × (Nat → Int32) × (Nat → Int32)))) = some res := h
      refine ww_iload_n B dX8_restore_123 2 rfl ?_
      refine ww_bipush B dX8_restore_124 (v := 30) (by decide) ?_
      refine ww_icmp_ge B 152 dX8_restore_126 (by decide) (fun c_126 => ?_) (fun c_126 => ?_)
      · replace h := og_t c_126 h
        refine ww_iconst B dX8_restore_152 (v := 1) (by decide) ?_
        exact ww_iret B hA hQ hr dX8_restore_153 (f_lucky, f_may, f_ranks, f_voyage, f_worths) [0, 1, 2, 3, 4, 5, 6, 7] rfl (by decide) (og_p h)
      · replace h := og_f c_126 h
        refine ww_aload_n B dX8_restore_129 0 rfl ?_
        refine ww_get (ci := 8) (T := TX8) (C := RX8) (N := 24) B iX8 0 rfl rfl 3 (by decide) (by decide +kernel) rfl rfl dX8_restore_130 ?_
        refine ww_iload_n B dX8_restore_133 2 rfl ?_
        refine ww_aload_n B dX8_restore_134 0 rfl ?_
        refine ww_get (ci := 8) (T := TX8) (C := RX8) (N := 24) B iX8 0 rfl rfl 22 (by decide) (by decide +kernel) rfl rfl dX8_restore_135 ?_
        refine ww_iload_n B dX8_restore_138 1 rfl ?_
        refine ww_bipush B dX8_restore_139 (v := 22) (by decide) ?_
        refine ww_iadd B dX8_restore_141 ?_
        refine ww_iload_n B dX8_restore_142 2 rfl ?_
        refine ww_iadd B dX8_restore_143 ?_
        obtain ⟨i_144, h⟩ := og_i h
        refine ww_iald B 1 rfl i_144 dX8_restore_144 ?_
        obtain ⟨i_145, h⟩ := og_i h
        refine ww_iast B 7 rfl i_145 dX8_restore_145 (ws' := [(a_t, .inr (8, [.ref a_may, .ref a_voyage, .ref a_lucky, .ref a_worths, .ref a_ranks, .int x_t_signs, .ref b_pad, .int x_t_day, .int x_t_reason, .ref b_bears, .ref b_due, .ref b_borneBy, .ref b_gone, .ref b_sunk, .ref b_times, .int x_t_asked, .ref b_whoBore, .ref b_gives, .ref b_best, .ref b_holds, .ref b_refused, .ref b_sums, .ref a_image, .ref a_isKept])), (a_image, .inl (cI, 104, .inl f_image)), (a_isKept, .inl (cZ, 2, .inl f_isKept)), (a_lucky, .inl (cI, 5, .inl f_lucky)), (a_may, .inl (cI, 6, .inl f_may)), (a_ranks, .inl (cI, 5, .inl f_ranks)), (a_voyage, .inl (cI, 6, .inl f_voyage)), (a_worths, .inl (cI, 30, .inl (upd f_worths (Int32.toNatClampNeg v3) (f_image (Int32.toNatClampNeg ((v2 + 22) + v3))))))]) rfl ?_
        obtain ⟨v3_146, ev3_146⟩ : ∃ y : Int32, y = (v3 + 1) := ⟨_, rfl⟩
        refine ww_iinc B dX8_restore_146 2 rfl (v := v3_146) (by rw [ev3_146]; rfl) (by decide) (lv' := [(3, .int v3_146), (0, .ref a_t), (2, .int v2)]) rfl ?_
        replace h := og_l ev3_146 h
        refine ww_goto B 123 dX8_restore_149 (by decide) ?_
        refine ww_lsel (lv' := [(0, .ref a_t), (2, .int v2), (3, .int v3_146)]) [1, 2, 0] rfl ?_
        exact ih_123 _ _ _ _ _ _ _ h
  have cut_76 : ∀ (fuel : Nat) (v2 : Int32) (v3 : Int32) (f_lucky : (Nat → Int32)) (f_may : (Nat → Int32)) (f_ranks : (Nat → Int32)) (f_voyage : (Nat → Int32)) (f_worths : (Nat → Int32)), m_X8_restore_76 f_image f_isKept fuel v2 v3 f_lucky f_may f_ranks f_voyage f_worths = some res → WW p l e (headSpec wsX8_restore ({ frames := 1, cells := 0, slots := 0, locals := 22 } : Room)).room s m args below meth c D A 4 0 0 Q [(a_t, .inr (8, [.ref a_may, .ref a_voyage, .ref a_lucky, .ref a_worths, .ref a_ranks, .int x_t_signs, .ref b_pad, .int x_t_day, .int x_t_reason, .ref b_bears, .ref b_due, .ref b_borneBy, .ref b_gone, .ref b_sunk, .ref b_times, .int x_t_asked, .ref b_whoBore, .ref b_gives, .ref b_best, .ref b_holds, .ref b_refused, .ref b_sums, .ref a_image, .ref a_isKept])), (a_image, .inl (cI, 104, .inl f_image)), (a_isKept, .inl (cZ, 2, .inl f_isKept)), (a_lucky, .inl (cI, 5, .inl f_lucky)), (a_may, .inl (cI, 6, .inl f_may)), (a_ranks, .inl (cI, 5, .inl f_ranks)), (a_voyage, .inl (cI, 6, .inl f_voyage)), (a_worths, .inl (cI, 30, .inl f_worths))] [(0, .ref a_t), (2, .int v2), (3, .int v3)] [] 76 := by
    intro fuel_76
    induction fuel_76 with
    | zero => intro v2 v3 f_lucky f_may f_ranks f_voyage f_worths h; exact og_0 h
    | succ fuel_76 ih_76 =>
      intro v2 v3 f_lucky f_may f_ranks f_voyage f_worths h
      replace h : (if 5 ≤ v3 then ((m_X8_restore_123 f_image f_isKept 1000000 v2 0 f_lucky f_may f_ranks f_voyage f_worths)) else (ogi ((v2 + 12) + v3) 104 (ogi v3 5 (ogi ((v2 + 17) + v3) 104 (ogi v3 5 (ogl (v3 + 1) (fun (v3_115 : Int32) => ((m_X8_restore_76 f_image f_isKept fuel_76) v2 v3_115 (upd f_lucky (Int32.toNatClampNeg v3) (f_image (Int32.toNatClampNeg ((v2 + 12) + v3)))) f_may (upd f_ranks (Int32.toNatClampNeg v3) (f_image (Int32.toNatClampNeg ((v2 + 17) + v3)))) f_voyage f_worths))))))) : Option (Int32 × ((Nat → Int32) × (Nat → Int32) × (Nat → Int32) × (Nat → Int32) × (Nat → Int32)))) = some res := h
      refine ww_iload_n B dX8_restore_76 2 rfl ?_
      refine ww_iconst B dX8_restore_77 (v := 5) (by decide) ?_
      refine ww_icmp_ge B 121 dX8_restore_78 (by decide) (fun c_78 => ?_) (fun c_78 => ?_)
      · replace h := og_t c_78 h
        refine ww_iconst B dX8_restore_121 (v := 0) (by decide) ?_
        refine ww_istore_n B dX8_restore_122 (lv' := [(3, .int 0), (0, .ref a_t), (2, .int v2)]) (by decide) rfl ?_
        refine ww_lsel (lv' := [(0, .ref a_t), (2, .int v2), (3, .int 0)]) [1, 2, 0] rfl ?_
        exact cut_123 _ _ _ _ _ _ _ _ h
      · replace h := og_f c_78 h
        refine ww_aload_n B dX8_restore_81 0 rfl ?_
        refine ww_get (ci := 8) (T := TX8) (C := RX8) (N := 24) B iX8 0 rfl rfl 2 (by decide) (by decide +kernel) rfl rfl dX8_restore_82 ?_
        refine ww_iload_n B dX8_restore_85 2 rfl ?_
        refine ww_aload_n B dX8_restore_86 0 rfl ?_
        refine ww_get (ci := 8) (T := TX8) (C := RX8) (N := 24) B iX8 0 rfl rfl 22 (by decide) (by decide +kernel) rfl rfl dX8_restore_87 ?_
        refine ww_iload_n B dX8_restore_90 1 rfl ?_
        refine ww_bipush B dX8_restore_91 (v := 12) (by decide) ?_
        refine ww_iadd B dX8_restore_93 ?_
        refine ww_iload_n B dX8_restore_94 2 rfl ?_
        refine ww_iadd B dX8_restore_95 ?_
        obtain ⟨i_96, h⟩ := og_i h
        refine ww_iald B 1 rfl i_96 dX8_restore_96 ?_
        obtain ⟨i_97, h⟩ := og_i h
        refine ww_iast B 3 rfl i_97 dX8_restore_97 (ws' := [(a_t, .inr (8, [.ref a_may, .ref a_voyage, .ref a_lucky, .ref a_worths, .ref a_ranks, .int x_t_signs, .ref b_pad, .int x_t_day, .int x_t_reason, .ref b_bears, .ref b_due, .ref b_borneBy, .ref b_gone, .ref b_sunk, .ref b_times, .int x_t_asked, .ref b_whoBore, .ref b_gives, .ref b_best, .ref b_holds, .ref b_refused, .ref b_sums, .ref a_image, .ref a_isKept])), (a_image, .inl (cI, 104, .inl f_image)), (a_isKept, .inl (cZ, 2, .inl f_isKept)), (a_lucky, .inl (cI, 5, .inl (upd f_lucky (Int32.toNatClampNeg v3) (f_image (Int32.toNatClampNeg ((v2 + 12) + v3)))))), (a_may, .inl (cI, 6, .inl f_may)), (a_ranks, .inl (cI, 5, .inl f_ranks)), (a_voyage, .inl (cI, 6, .inl f_voyage)), (a_worths, .inl (cI, 30, .inl f_worths))]) rfl ?_
        refine ww_aload_n B dX8_restore_98 0 rfl ?_
        refine ww_get (ci := 8) (T := TX8) (C := RX8) (N := 24) B iX8 0 rfl rfl 4 (by decide) (by decide +kernel) rfl rfl dX8_restore_99 ?_
        refine ww_iload_n B dX8_restore_102 2 rfl ?_
        refine ww_aload_n B dX8_restore_103 0 rfl ?_
        refine ww_get (ci := 8) (T := TX8) (C := RX8) (N := 24) B iX8 0 rfl rfl 22 (by decide) (by decide +kernel) rfl rfl dX8_restore_104 ?_
        refine ww_iload_n B dX8_restore_107 1 rfl ?_
        refine ww_bipush B dX8_restore_108 (v := 17) (by decide) ?_
        refine ww_iadd B dX8_restore_110 ?_
        refine ww_iload_n B dX8_restore_111 2 rfl ?_
        refine ww_iadd B dX8_restore_112 ?_
        obtain ⟨i_113, h⟩ := og_i h
        refine ww_iald B 1 rfl i_113 dX8_restore_113 ?_
        obtain ⟨i_114, h⟩ := og_i h
        refine ww_iast B 5 rfl i_114 dX8_restore_114 (ws' := [(a_t, .inr (8, [.ref a_may, .ref a_voyage, .ref a_lucky, .ref a_worths, .ref a_ranks, .int x_t_signs, .ref b_pad, .int x_t_day, .int x_t_reason, .ref b_bears, .ref b_due, .ref b_borneBy, .ref b_gone, .ref b_sunk, .ref b_times, .int x_t_asked, .ref b_whoBore, .ref b_gives, .ref b_best, .ref b_holds, .ref b_refused, .ref b_sums, .ref a_image, .ref a_isKept])), (a_image, .inl (cI, 104, .inl f_image)), (a_isKept, .inl (cZ, 2, .inl f_isKept)), (a_lucky, .inl (cI, 5, .inl (upd f_lucky (Int32.toNatClampNeg v3) (f_image (Int32.toNatClampNeg ((v2 + 12) + v3)))))), (a_may, .inl (cI, 6, .inl f_may)), (a_ranks, .inl (cI, 5, .inl (upd f_ranks (Int32.toNatClampNeg v3) (f_image (Int32.toNatClampNeg ((v2 + 17) + v3)))))), (a_voyage, .inl (cI, 6, .inl f_voyage)), (a_worths, .inl (cI, 30, .inl f_worths))]) rfl ?_
        obtain ⟨v3_115, ev3_115⟩ : ∃ y : Int32, y = (v3 + 1) := ⟨_, rfl⟩
        refine ww_iinc B dX8_restore_115 2 rfl (v := v3_115) (by rw [ev3_115]; rfl) (by decide) (lv' := [(3, .int v3_115), (0, .ref a_t), (2, .int v2)]) rfl ?_
        replace h := og_l ev3_115 h
        refine ww_goto B 76 dX8_restore_118 (by decide) ?_
        refine ww_lsel (lv' := [(0, .ref a_t), (2, .int v2), (3, .int v3_115)]) [1, 2, 0] rfl ?_
        exact ih_76 _ _ _ _ _ _ _ h
  have cut_31 : ∀ (fuel : Nat) (v2 : Int32) (v3 : Int32) (f_lucky : (Nat → Int32)) (f_may : (Nat → Int32)) (f_ranks : (Nat → Int32)) (f_voyage : (Nat → Int32)) (f_worths : (Nat → Int32)), m_X8_restore_31 f_image f_isKept fuel v2 v3 f_lucky f_may f_ranks f_voyage f_worths = some res → WW p l e (headSpec wsX8_restore ({ frames := 1, cells := 0, slots := 0, locals := 22 } : Room)).room s m args below meth c D A 4 0 0 Q [(a_t, .inr (8, [.ref a_may, .ref a_voyage, .ref a_lucky, .ref a_worths, .ref a_ranks, .int x_t_signs, .ref b_pad, .int x_t_day, .int x_t_reason, .ref b_bears, .ref b_due, .ref b_borneBy, .ref b_gone, .ref b_sunk, .ref b_times, .int x_t_asked, .ref b_whoBore, .ref b_gives, .ref b_best, .ref b_holds, .ref b_refused, .ref b_sums, .ref a_image, .ref a_isKept])), (a_image, .inl (cI, 104, .inl f_image)), (a_isKept, .inl (cZ, 2, .inl f_isKept)), (a_lucky, .inl (cI, 5, .inl f_lucky)), (a_may, .inl (cI, 6, .inl f_may)), (a_ranks, .inl (cI, 5, .inl f_ranks)), (a_voyage, .inl (cI, 6, .inl f_voyage)), (a_worths, .inl (cI, 30, .inl f_worths))] [(0, .ref a_t), (2, .int v2), (3, .int v3)] [] 31 := by
    intro fuel_31
    induction fuel_31 with
    | zero => intro v2 v3 f_lucky f_may f_ranks f_voyage f_worths h; exact og_0 h
    | succ fuel_31 ih_31 =>
      intro v2 v3 f_lucky f_may f_ranks f_voyage f_worths h
      replace h : (if 6 ≤ v3 then ((m_X8_restore_76 f_image f_isKept 1000000 v2 0 f_lucky f_may f_ranks f_voyage f_worths)) else (ogi (v2 + v3) 104 (ogi v3 6 (ogi ((v2 + 6) + v3) 104 (ogi v3 6 (ogl (v3 + 1) (fun (v3_68 : Int32) => ((m_X8_restore_31 f_image f_isKept fuel_31) v2 v3_68 f_lucky (upd f_may (Int32.toNatClampNeg v3) (f_image (Int32.toNatClampNeg (v2 + v3)))) f_ranks (upd f_voyage (Int32.toNatClampNeg v3) (f_image (Int32.toNatClampNeg ((v2 + 6) + v3)))) f_worths))))))) : Option (Int32 × ((Nat → Int32) × (Nat → Int32) × (Nat → Int32) × (Nat → Int32) × (Nat → Int32)))) = some res := h
      refine ww_iload_n B dX8_restore_31 2 rfl ?_
      refine ww_bipush B dX8_restore_32 (v := 6) (by decide) ?_
      refine ww_icmp_ge B 74 dX8_restore_34 (by decide) (fun c_34 => ?_) (fun c_34 => ?_)
      · replace h := og_t c_34 h
        refine ww_iconst B dX8_restore_74 (v := 0) (by decide) ?_
        refine ww_istore_n B dX8_restore_75 (lv' := [(3, .int 0), (0, .ref a_t), (2, .int v2)]) (by decide) rfl ?_
        refine ww_lsel (lv' := [(0, .ref a_t), (2, .int v2), (3, .int 0)]) [1, 2, 0] rfl ?_
        exact cut_76 _ _ _ _ _ _ _ _ h
      · replace h := og_f c_34 h
        refine ww_aload_n B dX8_restore_37 0 rfl ?_
        refine ww_get (ci := 8) (T := TX8) (C := RX8) (N := 24) B iX8 0 rfl rfl 0 (by decide) (by decide +kernel) rfl rfl dX8_restore_38 ?_
        refine ww_iload_n B dX8_restore_41 2 rfl ?_
        refine ww_aload_n B dX8_restore_42 0 rfl ?_
        refine ww_get (ci := 8) (T := TX8) (C := RX8) (N := 24) B iX8 0 rfl rfl 22 (by decide) (by decide +kernel) rfl rfl dX8_restore_43 ?_
        refine ww_iload_n B dX8_restore_46 1 rfl ?_
        refine ww_iload_n B dX8_restore_47 2 rfl ?_
        refine ww_iadd B dX8_restore_48 ?_
        obtain ⟨i_49, h⟩ := og_i h
        refine ww_iald B 1 rfl i_49 dX8_restore_49 ?_
        obtain ⟨i_50, h⟩ := og_i h
        refine ww_iast B 4 rfl i_50 dX8_restore_50 (ws' := [(a_t, .inr (8, [.ref a_may, .ref a_voyage, .ref a_lucky, .ref a_worths, .ref a_ranks, .int x_t_signs, .ref b_pad, .int x_t_day, .int x_t_reason, .ref b_bears, .ref b_due, .ref b_borneBy, .ref b_gone, .ref b_sunk, .ref b_times, .int x_t_asked, .ref b_whoBore, .ref b_gives, .ref b_best, .ref b_holds, .ref b_refused, .ref b_sums, .ref a_image, .ref a_isKept])), (a_image, .inl (cI, 104, .inl f_image)), (a_isKept, .inl (cZ, 2, .inl f_isKept)), (a_lucky, .inl (cI, 5, .inl f_lucky)), (a_may, .inl (cI, 6, .inl (upd f_may (Int32.toNatClampNeg v3) (f_image (Int32.toNatClampNeg (v2 + v3)))))), (a_ranks, .inl (cI, 5, .inl f_ranks)), (a_voyage, .inl (cI, 6, .inl f_voyage)), (a_worths, .inl (cI, 30, .inl f_worths))]) rfl ?_
        refine ww_aload_n B dX8_restore_51 0 rfl ?_
        refine ww_get (ci := 8) (T := TX8) (C := RX8) (N := 24) B iX8 0 rfl rfl 1 (by decide) (by decide +kernel) rfl rfl dX8_restore_52 ?_
        refine ww_iload_n B dX8_restore_55 2 rfl ?_
        refine ww_aload_n B dX8_restore_56 0 rfl ?_
        refine ww_get (ci := 8) (T := TX8) (C := RX8) (N := 24) B iX8 0 rfl rfl 22 (by decide) (by decide +kernel) rfl rfl dX8_restore_57 ?_
        refine ww_iload_n B dX8_restore_60 1 rfl ?_
        refine ww_bipush B dX8_restore_61 (v := 6) (by decide) ?_
        refine ww_iadd B dX8_restore_63 ?_
        refine ww_iload_n B dX8_restore_64 2 rfl ?_
        refine ww_iadd B dX8_restore_65 ?_
        obtain ⟨i_66, h⟩ := og_i h
        refine ww_iald B 1 rfl i_66 dX8_restore_66 ?_
        obtain ⟨i_67, h⟩ := og_i h
        refine ww_iast B 6 rfl i_67 dX8_restore_67 (ws' := [(a_t, .inr (8, [.ref a_may, .ref a_voyage, .ref a_lucky, .ref a_worths, .ref a_ranks, .int x_t_signs, .ref b_pad, .int x_t_day, .int x_t_reason, .ref b_bears, .ref b_due, .ref b_borneBy, .ref b_gone, .ref b_sunk, .ref b_times, .int x_t_asked, .ref b_whoBore, .ref b_gives, .ref b_best, .ref b_holds, .ref b_refused, .ref b_sums, .ref a_image, .ref a_isKept])), (a_image, .inl (cI, 104, .inl f_image)), (a_isKept, .inl (cZ, 2, .inl f_isKept)), (a_lucky, .inl (cI, 5, .inl f_lucky)), (a_may, .inl (cI, 6, .inl (upd f_may (Int32.toNatClampNeg v3) (f_image (Int32.toNatClampNeg (v2 + v3)))))), (a_ranks, .inl (cI, 5, .inl f_ranks)), (a_voyage, .inl (cI, 6, .inl (upd f_voyage (Int32.toNatClampNeg v3) (f_image (Int32.toNatClampNeg ((v2 + 6) + v3)))))), (a_worths, .inl (cI, 30, .inl f_worths))]) rfl ?_
        obtain ⟨v3_68, ev3_68⟩ : ∃ y : Int32, y = (v3 + 1) := ⟨_, rfl⟩
        refine ww_iinc B dX8_restore_68 2 rfl (v := v3_68) (by rw [ev3_68]; rfl) (by decide) (lv' := [(3, .int v3_68), (0, .ref a_t), (2, .int v2)]) rfl ?_
        replace h := og_l ev3_68 h
        refine ww_goto B 31 dX8_restore_71 (by decide) ?_
        refine ww_lsel (lv' := [(0, .ref a_t), (2, .int v2), (3, .int v3_68)]) [1, 2, 0] rfl ?_
        exact ih_31 _ _ _ _ _ _ _ h
  refine ww_iload_n B dX8_restore_0 1 rfl ?_
  refine ww_iconst B dX8_restore_1 (v := 0) (by decide) ?_
  refine ww_iconst B dX8_restore_2 (v := 1) (by decide) ?_
  obtain ⟨q_3, hq_3, h⟩ := og_b h
  refine ww_ci0 B (k' := 0) (n' := 0) rfl rfl [] [0, 1, 2, 3, 4, 5, 6, 7] (wr := [(a_t, .inr (8, [.ref a_may, .ref a_voyage, .ref a_lucky, .ref a_worths, .ref a_ranks, .int x_t_signs, .ref b_pad, .int x_t_day, .int x_t_reason, .ref b_bears, .ref b_due, .ref b_borneBy, .ref b_gone, .ref b_sunk, .ref b_times, .int x_t_asked, .ref b_whoBore, .ref b_gives, .ref b_best, .ref b_holds, .ref b_refused, .ref b_sums, .ref a_image, .ref a_isKept])), (a_image, .inl (cI, 104, .inl f_image)), (a_isKept, .inl (cZ, 2, .inl f_isKept)), (a_lucky, .inl (cI, 5, .inl f_lucky)), (a_may, .inl (cI, 6, .inl f_may)), (a_ranks, .inl (cI, 5, .inl f_ranks)), (a_voyage, .inl (cI, 6, .inl f_voyage)), (a_worths, .inl (cI, 30, .inl f_worths))]) (st := []) rfl rfl (by decide) (rr_S B (c_X8_in l D cI cZ v1 0 1 hq_3) gX8_restore_X8_in rfl rfl rfl (N := 3) rfl (by decide +kernel) ⟨Nat.le_of_ble_eq_true rfl, Nat.le_of_ble_eq_true rfl⟩ rfl dX8_restore_3 (Nat.le_of_ble_eq_true rfl) ⟨Nat.le_of_ble_eq_true rfl, Nat.le_of_ble_eq_true rfl⟩) (ws' := [(a_t, .inr (8, [.ref a_may, .ref a_voyage, .ref a_lucky, .ref a_worths, .ref a_ranks, .int x_t_signs, .ref b_pad, .int x_t_day, .int x_t_reason, .ref b_bears, .ref b_due, .ref b_borneBy, .ref b_gone, .ref b_sunk, .ref b_times, .int x_t_asked, .ref b_whoBore, .ref b_gives, .ref b_best, .ref b_holds, .ref b_refused, .ref b_sums, .ref a_image, .ref a_isKept])), (a_image, .inl (cI, 104, .inl f_image)), (a_isKept, .inl (cZ, 2, .inl f_isKept)), (a_lucky, .inl (cI, 5, .inl f_lucky)), (a_may, .inl (cI, 6, .inl f_may)), (a_ranks, .inl (cI, 5, .inl f_ranks)), (a_voyage, .inl (cI, 6, .inl f_voyage)), (a_worths, .inl (cI, 30, .inl f_worths))]) rfl ?_
  refine ww_if_ne B 12 dX8_restore_6 (by decide) (fun c_6 => ?_) (fun c_6 => ?_)
  · replace h := og_f c_6 h
    refine ww_aload_n B dX8_restore_12 0 rfl ?_
    refine ww_get (ci := 8) (T := TX8) (C := RX8) (N := 24) B iX8 0 rfl rfl 23 (by decide) (by decide +kernel) rfl rfl dX8_restore_13 ?_
    refine ww_iload_n B dX8_restore_16 1 rfl ?_
    obtain ⟨i_17, h⟩ := og_i h
    refine ww_zald B 2 rfl i_17 dX8_restore_17 ?_
    refine ww_if_ne B 24 dX8_restore_18 (by decide) (fun c_18 => ?_) (fun c_18 => ?_)
    · replace h := og_f c_18 h
      refine ww_bipush B dX8_restore_24 (v := 52) (by decide) ?_
      refine ww_iload_n B dX8_restore_26 1 rfl ?_
      refine ww_imul B dX8_restore_27 ?_
      refine ww_topi (fun v2_28 ev2_28 => ?_)
      replace h := og_l ev2_28 h
      refine ww_istore_n B dX8_restore_28 (lv' := [(2, .int v2_28), (0, .ref a_t), (1, .int v1)]) (by decide) rfl ?_
      refine ww_iconst B dX8_restore_29 (v := 0) (by decide) ?_
      refine ww_istore_n B dX8_restore_30 (lv' := [(3, .int 0), (2, .int v2_28), (0, .ref a_t), (1, .int v1)]) (by decide) rfl ?_
      refine ww_lsel (lv' := [(0, .ref a_t), (2, .int v2_28), (3, .int 0)]) [2, 1, 0] rfl ?_
      exact cut_31 _ _ _ _ _ _ _ _ h
    · replace h := og_t c_18 h
      refine ww_bipush B dX8_restore_21 (v := (-3)) (by decide) ?_
      exact ww_iret B hA hQ hr dX8_restore_23 (f_lucky, f_may, f_ranks, f_voyage, f_worths) [0, 1, 2, 3, 4, 5, 6, 7] rfl (by decide) (og_p h)
  · replace h := og_t c_6 h
    refine ww_bipush B dX8_restore_9 (v := (-2)) (by decide) ?_
    exact ww_iret B hA hQ hr dX8_restore_11 (f_lucky, f_may, f_ranks, f_voyage, f_worths) [0, 1, 2, 3, 4, 5, 6, 7] rfl (by decide) (og_p h)
noncomputable def m_X8_say (f_pad : (Nat → Int32)) (x_t_signs : Int32) (v1 : Int32) : Option (Int32 × ((Nat → Int32) × Int32)) := ogb (m_X8_in v1 33 126) (fun q_5 => if q_5 = 0 then (some ((-2), (f_pad, x_t_signs))) else (if x_t_signs = 48 then (some ((-4), (f_pad, x_t_signs))) else (ogi x_t_signs 48 (ogl (x_t_signs + 1) (fun (w_43 : Int32) => some (w_43, ((upd f_pad (Int32.toNatClampNeg x_t_signs) v1), w_43)))))))
set_option maxHeartbeats 4000000 in
set_option maxRecDepth 100000 in
theorem c_X8_say (l : Launch) (D : va_G) (cI cZ : ClassId) (a_t a_pad b_may b_voyage b_lucky b_worths b_ranks b_bears b_due b_borneBy b_gone b_sunk b_times b_whoBore b_gives b_best b_holds b_refused b_sums b_image b_isKept : Nat) (f_pad : (Nat → Int32)) (x_t_signs : Int32) (x_t_day : Int32) (x_t_reason : Int32) (x_t_asked : Int32) (v1 : Int32) {res : (Int32 × ((Nat → Int32) × Int32))} (h : m_X8_say f_pad x_t_signs v1 = some res) : CT l yX8_say wsX8_say ({ frames := 1, cells := 0, slots := 0, locals := 22 } : Room) D cI cZ [.ref a_t, .int v1] [(a_t, .inr (8, [.ref b_may, .ref b_voyage, .ref b_lucky, .ref b_worths, .ref b_ranks, .int x_t_signs, .ref a_pad, .int x_t_day, .int x_t_reason, .ref b_bears, .ref b_due, .ref b_borneBy, .ref b_gone, .ref b_sunk, .ref b_times, .int x_t_asked, .ref b_whoBore, .ref b_gives, .ref b_best, .ref b_holds, .ref b_refused, .ref b_sums, .ref b_image, .ref b_isKept])), (a_pad, .inl (cI, 48, .inl f_pad))] (QI D [(a_t, .inr (8, [.ref b_may, .ref b_voyage, .ref b_lucky, .ref b_worths, .ref b_ranks, .int x_t_signs, .ref a_pad, .int x_t_day, .int x_t_reason, .ref b_bears, .ref b_due, .ref b_borneBy, .ref b_gone, .ref b_sunk, .ref b_times, .int x_t_asked, .ref b_whoBore, .ref b_gives, .ref b_best, .ref b_holds, .ref b_refused, .ref b_sums, .ref b_image, .ref b_isKept])), (a_pad, .inl (cI, 48, .inl f_pad))] (fun (r : Int32) (u : (Nat → Int32) × Int32) => r = res.1 ∧ u = res.2) (fun (u : (Nat → Int32) × Int32) => [(a_t, .inr (8, [.ref b_may, .ref b_voyage, .ref b_lucky, .ref b_worths, .ref b_ranks, .int u.2, .ref a_pad, .int x_t_day, .int x_t_reason, .ref b_bears, .ref b_due, .ref b_borneBy, .ref b_gone, .ref b_sunk, .ref b_times, .int x_t_asked, .ref b_whoBore, .ref b_gives, .ref b_best, .ref b_holds, .ref b_refused, .ref b_sums, .ref b_image, .ref b_isKept])), (a_pad, .inl (cI, 48, .inl u.1))])) 0 0 := by
  have h : (ogb (m_X8_in v1 33 126) (fun q_5 => if q_5 = 0 then (some ((-2), (f_pad, x_t_signs))) else (if x_t_signs = 48 then (some ((-4), (f_pad, x_t_signs))) else (ogi x_t_signs 48 (ogl (x_t_signs + 1) (fun (w_43 : Int32) => some (w_43, ((upd f_pad (Int32.toNatClampNeg x_t_signs) v1), w_43))))))) : Option (Int32 × ((Nat → Int32) × Int32))) = some res := h
  refine ct_entry (cc := cX8_say) (nl := 2) (ret := (some .int)) (own := RX8) (lv0 := [(0, .ref a_t), (1, .int v1)]) (by decide) rfl rfl (Nat.le_of_ble_eq_true rfl) rfl ?_
  intro p e s m args below meth c A Q hA hQ hr hnm B
  have iX8 : ∀ w ∈ wsX80, w ∈ wsX8_say := by decide +kernel
  refine ww_iload_n B dX8_say_0 1 rfl ?_
  refine ww_bipush B dX8_say_1 (v := 33) (by decide) ?_
  refine ww_bipush B dX8_say_3 (v := 126) (by decide) ?_
  obtain ⟨q_5, hq_5, h⟩ := og_b h
  refine ww_ci0 B (k' := 0) (n' := 0) rfl rfl [] [0, 1] (wr := [(a_t, .inr (8, [.ref b_may, .ref b_voyage, .ref b_lucky, .ref b_worths, .ref b_ranks, .int x_t_signs, .ref a_pad, .int x_t_day, .int x_t_reason, .ref b_bears, .ref b_due, .ref b_borneBy, .ref b_gone, .ref b_sunk, .ref b_times, .int x_t_asked, .ref b_whoBore, .ref b_gives, .ref b_best, .ref b_holds, .ref b_refused, .ref b_sums, .ref b_image, .ref b_isKept])), (a_pad, .inl (cI, 48, .inl f_pad))]) (st := []) rfl rfl (by decide) (rr_S B (c_X8_in l D cI cZ v1 33 126 hq_5) gX8_say_X8_in rfl rfl rfl (N := 3) rfl (by decide +kernel) ⟨Nat.le_of_ble_eq_true rfl, Nat.le_of_ble_eq_true rfl⟩ rfl dX8_say_5 (Nat.le_of_ble_eq_true rfl) ⟨Nat.le_of_ble_eq_true rfl, Nat.le_of_ble_eq_true rfl⟩) (ws' := [(a_t, .inr (8, [.ref b_may, .ref b_voyage, .ref b_lucky, .ref b_worths, .ref b_ranks, .int x_t_signs, .ref a_pad, .int x_t_day, .int x_t_reason, .ref b_bears, .ref b_due, .ref b_borneBy, .ref b_gone, .ref b_sunk, .ref b_times, .int x_t_asked, .ref b_whoBore, .ref b_gives, .ref b_best, .ref b_holds, .ref b_refused, .ref b_sums, .ref b_image, .ref b_isKept])), (a_pad, .inl (cI, 48, .inl f_pad))]) rfl ?_
  refine ww_if_ne B 14 dX8_say_8 (by decide) (fun c_8 => ?_) (fun c_8 => ?_)
  · replace h := og_f c_8 h
    refine ww_aload_n B dX8_say_14 0 rfl ?_
    refine ww_get (ci := 8) (T := TX8) (C := RX8) (N := 24) B iX8 0 rfl rfl 5 (by decide) (by decide +kernel) rfl rfl dX8_say_15 ?_
    refine ww_bipush B dX8_say_18 (v := 48) (by decide) ?_
    refine ww_icmp_ne B 26 dX8_say_20 (by decide) (fun c_20 => ?_) (fun c_20 => ?_)
    · replace h := og_f c_20 h
      refine ww_aload_n B dX8_say_26 0 rfl ?_
      refine ww_get (ci := 8) (T := TX8) (C := RX8) (N := 24) B iX8 0 rfl rfl 6 (by decide) (by decide +kernel) rfl rfl dX8_say_27 ?_
      refine ww_aload_n B dX8_say_30 0 rfl ?_
      refine ww_get (ci := 8) (T := TX8) (C := RX8) (N := 24) B iX8 0 rfl rfl 5 (by decide) (by decide +kernel) rfl rfl dX8_say_31 ?_
      refine ww_iload_n B dX8_say_34 1 rfl ?_
      obtain ⟨i_35, h⟩ := og_i h
      refine ww_iast B 1 rfl i_35 dX8_say_35 (ws' := [(a_t, .inr (8, [.ref b_may, .ref b_voyage, .ref b_lucky, .ref b_worths, .ref b_ranks, .int x_t_signs, .ref a_pad, .int x_t_day, .int x_t_reason, .ref b_bears, .ref b_due, .ref b_borneBy, .ref b_gone, .ref b_sunk, .ref b_times, .int x_t_asked, .ref b_whoBore, .ref b_gives, .ref b_best, .ref b_holds, .ref b_refused, .ref b_sums, .ref b_image, .ref b_isKept])), (a_pad, .inl (cI, 48, .inl (upd f_pad (Int32.toNatClampNeg x_t_signs) v1)))]) rfl ?_
      refine ww_aload_n B dX8_say_36 0 rfl ?_
      refine ww_dup B dX8_say_37 rfl ?_
      refine ww_get (ci := 8) (T := TX8) (C := RX8) (N := 24) B iX8 0 rfl rfl 5 (by decide) (by decide +kernel) rfl rfl dX8_say_38 ?_
      refine ww_iconst B dX8_say_41 (v := 1) (by decide) ?_
      refine ww_iadd B dX8_say_42 ?_
      refine ww_topi (fun w_43 ew_43 => ?_)
      replace h := og_l ew_43 h
      refine ww_put (ci := 8) (T := TX8) (C := RX8) (N := 24) (ty := .int) B iX8 tyX8 tyX8_ok nmX8 0 rfl rfl 5 (by decide) (by decide +kernel) rfl rfl (by decide +kernel) rfl rfl (Nat.le_of_ble_eq_true rfl) dX8_say_43 (ws' := [(a_t, .inr (8, [.ref b_may, .ref b_voyage, .ref b_lucky, .ref b_worths, .ref b_ranks, .int w_43, .ref a_pad, .int x_t_day, .int x_t_reason, .ref b_bears, .ref b_due, .ref b_borneBy, .ref b_gone, .ref b_sunk, .ref b_times, .int x_t_asked, .ref b_whoBore, .ref b_gives, .ref b_best, .ref b_holds, .ref b_refused, .ref b_sums, .ref b_image, .ref b_isKept])), (a_pad, .inl (cI, 48, .inl (upd f_pad (Int32.toNatClampNeg x_t_signs) v1)))]) rfl ?_
      refine ww_aload_n B dX8_say_46 0 rfl ?_
      refine ww_get (ci := 8) (T := TX8) (C := RX8) (N := 24) B iX8 0 rfl rfl 5 (by decide) (by decide +kernel) rfl rfl dX8_say_47 ?_
      exact ww_iret B hA hQ hr dX8_say_50 ((upd f_pad (Int32.toNatClampNeg x_t_signs) v1), w_43) [0, 1] rfl (by decide) (og_p h)
    · replace h := og_t c_20 h
      refine ww_bipush B dX8_say_23 (v := (-4)) (by decide) ?_
      exact ww_iret B hA hQ hr dX8_say_25 (f_pad, x_t_signs) [0, 1] rfl (by decide) (og_p h)
  · replace h := og_t c_8 h
    refine ww_bipush B dX8_say_11 (v := (-2)) (by decide) ?_
    exact ww_iret B hA hQ hr dX8_say_13 (f_pad, x_t_signs) [0, 1] rfl (by decide) (og_p h)
noncomputable def m_X8_stable_264 (k71 : Int32 → Int32 → Int32 → Int32 → (Nat → Int32) → (Nat → Int32) → (Nat → Int32) → Option (Int32 × ((Nat → Int32) × (Nat → Int32) × (Nat → Int32)))) (k82 : Int32 → Int32 → Int32 → Int32 → Int32 → (Nat → Int32) → (Nat → Int32) → (Nat → Int32) → Option (Int32 × ((Nat → Int32) × (Nat → Int32) × (Nat → Int32)))) (f_may : (Nat → Int32)) (f_ranks : (Nat → Int32)) (f_worths : (Nat → Int32)) (v1 : Int32) (v2 : Int32) (v3 : Int32) (v4 : Int32) (v5 : Int32) (f_best : (Nat → Int32)) (f_holds : (Nat → Int32)) (f_refused : (Nat → Int32)) : Option (Int32 × ((Nat → Int32) × (Nat → Int32) × (Nat → Int32))) := ogl (v5 + 1) (fun (v5_264 : Int32) => (k82 v1 v2 v3 v4 v5_264 f_best f_holds f_refused))
noncomputable def m_X8_stable_246 (k71 : Int32 → Int32 → Int32 → Int32 → (Nat → Int32) → (Nat → Int32) → (Nat → Int32) → Option (Int32 × ((Nat → Int32) × (Nat → Int32) × (Nat → Int32)))) (k82 : Int32 → Int32 → Int32 → Int32 → Int32 → (Nat → Int32) → (Nat → Int32) → (Nat → Int32) → Option (Int32 × ((Nat → Int32) × (Nat → Int32) × (Nat → Int32)))) (f_may : (Nat → Int32)) (f_ranks : (Nat → Int32)) (f_worths : (Nat → Int32)) (v1 : Int32) (v2 : Int32) (v3 : Int32) (v4 : Int32) (v5 : Int32) (v6 : Int32) (f_best : (Nat → Int32)) (f_holds : (Nat → Int32)) (f_refused : (Nat → Int32)) : Option (Int32 × ((Nat → Int32) × (Nat → Int32) × (Nat → Int32))) := ogi v6 5 (ogi v5 6 ((m_X8_stable_264 k71 k82 f_may f_ranks f_worths v1 v2 v3 v4 v5 (upd f_best (Int32.toNatClampNeg v5) v6) (upd f_holds (Int32.toNatClampNeg v6) v5) f_refused)))
noncomputable def m_X8_stable_180 (k71 : Int32 → Int32 → Int32 → Int32 → (Nat → Int32) → (Nat → Int32) → (Nat → Int32) → Option (Int32 × ((Nat → Int32) × (Nat → Int32) × (Nat → Int32)))) (k82 : Int32 → Int32 → Int32 → Int32 → Int32 → (Nat → Int32) → (Nat → Int32) → (Nat → Int32) → Option (Int32 × ((Nat → Int32) × (Nat → Int32) × (Nat → Int32)))) (k96 : Int32 → Int32 → Int32 → Int32 → Int32 → Int32 → Int32 → (Nat → Int32) → (Nat → Int32) → (Nat → Int32) → Option (Int32 × ((Nat → Int32) × (Nat → Int32) × (Nat → Int32)))) (f_may : (Nat → Int32)) (f_ranks : (Nat → Int32)) (f_worths : (Nat → Int32)) (v1 : Int32) (v2 : Int32) (v3 : Int32) (v4 : Int32) (v5 : Int32) (v7 : Int32) (s0 : Int32) (f_best : (Nat → Int32)) (f_holds : (Nat → Int32)) (f_refused : (Nat → Int32)) : Option (Int32 × ((Nat → Int32) × (Nat → Int32) × (Nat → Int32))) := ogl (v7 + 1) (fun (v7_182 : Int32) => (k96 v1 v2 v3 v4 v5 s0 v7_182 f_best f_holds f_refused))
noncomputable def m_X8_stable_178 (k71 : Int32 → Int32 → Int32 → Int32 → (Nat → Int32) → (Nat → Int32) → (Nat → Int32) → Option (Int32 × ((Nat → Int32) × (Nat → Int32) × (Nat → Int32)))) (k82 : Int32 → Int32 → Int32 → Int32 → Int32 → (Nat → Int32) → (Nat → Int32) → (Nat → Int32) → Option (Int32 × ((Nat → Int32) × (Nat → Int32) × (Nat → Int32)))) (k96 : Int32 → Int32 → Int32 → Int32 → Int32 → Int32 → Int32 → (Nat → Int32) → (Nat → Int32) → (Nat → Int32) → Option (Int32 × ((Nat → Int32) × (Nat → Int32) × (Nat → Int32)))) (f_may : (Nat → Int32)) (f_ranks : (Nat → Int32)) (f_worths : (Nat → Int32)) (v1 : Int32) (v2 : Int32) (v3 : Int32) (v4 : Int32) (v5 : Int32) (v6 : Int32) (v7 : Int32) (f_best : (Nat → Int32)) (f_holds : (Nat → Int32)) (f_refused : (Nat → Int32)) : Option (Int32 × ((Nat → Int32) × (Nat → Int32) × (Nat → Int32))) := (m_X8_stable_180 k71 k82 k96 f_may f_ranks f_worths v1 v2 v3 v4 v5 v7 v6 f_best f_holds f_refused)
noncomputable def m_X8_stable_153 (k71 : Int32 → Int32 → Int32 → Int32 → (Nat → Int32) → (Nat → Int32) → (Nat → Int32) → Option (Int32 × ((Nat → Int32) × (Nat → Int32) × (Nat → Int32)))) (k82 : Int32 → Int32 → Int32 → Int32 → Int32 → (Nat → Int32) → (Nat → Int32) → (Nat → Int32) → Option (Int32 × ((Nat → Int32) × (Nat → Int32) × (Nat → Int32)))) (k96 : Int32 → Int32 → Int32 → Int32 → Int32 → Int32 → Int32 → (Nat → Int32) → (Nat → Int32) → (Nat → Int32) → Option (Int32 × ((Nat → Int32) × (Nat → Int32) × (Nat → Int32)))) (f_may : (Nat → Int32)) (f_ranks : (Nat → Int32)) (f_worths : (Nat → Int32)) (v1 : Int32) (v2 : Int32) (v3 : Int32) (v4 : Int32) (v5 : Int32) (v6 : Int32) (v7 : Int32) (s0 : Int32) (f_best : (Nat → Int32)) (f_holds : (Nat → Int32)) (f_refused : (Nat → Int32)) : Option (Int32 × ((Nat → Int32) × (Nat → Int32) × (Nat → Int32))) := if s0 = 0 then ((m_X8_stable_178 k71 k82 k96 f_may f_ranks f_worths v1 v2 v3 v4 v5 v6 v7 f_best f_holds f_refused)) else (ogb (m_X8_likes f_worths v5 v7 v6) (fun q_167 => if q_167 = 0 then ((m_X8_stable_178 k71 k82 k96 f_may f_ranks f_worths v1 v2 v3 v4 v5 v6 v7 f_best f_holds f_refused)) else ((m_X8_stable_180 k71 k82 k96 f_may f_ranks f_worths v1 v2 v3 v4 v5 v7 v7 f_best f_holds f_refused))))
noncomputable def m_X8_stable_152 (k71 : Int32 → Int32 → Int32 → Int32 → (Nat → Int32) → (Nat → Int32) → (Nat → Int32) → Option (Int32 × ((Nat → Int32) × (Nat → Int32) × (Nat → Int32)))) (k82 : Int32 → Int32 → Int32 → Int32 → Int32 → (Nat → Int32) → (Nat → Int32) → (Nat → Int32) → Option (Int32 × ((Nat → Int32) × (Nat → Int32) × (Nat → Int32)))) (k96 : Int32 → Int32 → Int32 → Int32 → Int32 → Int32 → Int32 → (Nat → Int32) → (Nat → Int32) → (Nat → Int32) → Option (Int32 × ((Nat → Int32) × (Nat → Int32) × (Nat → Int32)))) (f_may : (Nat → Int32)) (f_ranks : (Nat → Int32)) (f_worths : (Nat → Int32)) (v1 : Int32) (v2 : Int32) (v3 : Int32) (v4 : Int32) (v5 : Int32) (v6 : Int32) (v7 : Int32) (f_best : (Nat → Int32)) (f_holds : (Nat → Int32)) (f_refused : (Nat → Int32)) : Option (Int32 × ((Nat → Int32) × (Nat → Int32) × (Nat → Int32))) := (m_X8_stable_153 k71 k82 k96 f_may f_ranks f_worths v1 v2 v3 v4 v5 v6 v7 0 f_best f_holds f_refused)
noncomputable def m_X8_stable_96b (k71 : Int32 → Int32 → Int32 → Int32 → (Nat → Int32) → (Nat → Int32) → (Nat → Int32) → Option (Int32 × ((Nat → Int32) × (Nat → Int32) × (Nat → Int32)))) (k82 : Int32 → Int32 → Int32 → Int32 → Int32 → (Nat → Int32) → (Nat → Int32) → (Nat → Int32) → Option (Int32 × ((Nat → Int32) × (Nat → Int32) × (Nat → Int32)))) (k96 : Int32 → Int32 → Int32 → Int32 → Int32 → Int32 → Int32 → (Nat → Int32) → (Nat → Int32) → (Nat → Int32) → Option (Int32 × ((Nat → Int32) × (Nat → Int32) × (Nat → Int32)))) (f_may : (Nat → Int32)) (f_ranks : (Nat → Int32)) (f_worths : (Nat → Int32)) (v1 : Int32) (v2 : Int32) (v3 : Int32) (v4 : Int32) (v5 : Int32) (v6 : Int32) (v7 : Int32) (f_best : (Nat → Int32)) (f_holds : (Nat → Int32)) (f_refused : (Nat → Int32)) : Option (Int32 × ((Nat → Int32) × (Nat → Int32) × (Nat → Int32))) := if 5 ≤ v7 then (if v6 < 0 then ((m_X8_stable_264 k71 k82 f_may f_ranks f_worths v1 v2 v3 v4 v5 f_best f_holds f_refused)) else (ogi v5 6 (ogi v5 6 (ogi v6 5 (ogl (f_holds (Int32.toNatClampNeg v6)) (fun (v7_217 : Int32) => ogb (m_X8_likesHull f_ranks v6 v5 v7_217) (fun q_226 => if q_226 = 0 then ((m_X8_stable_264 k71 k82 f_may f_ranks f_worths v1 v2 v3 1 v5 f_best f_holds (upd f_refused (Int32.toNatClampNeg v5) ((f_refused (Int32.toNatClampNeg v5)) ||| ((1 : Int32) <<< ((v6 : Int32) &&& 31)))))) else (if v7_217 < 0 then ((m_X8_stable_246 k71 k82 f_may f_ranks f_worths v1 v2 v3 1 v5 v6 f_best f_holds (upd f_refused (Int32.toNatClampNeg v5) ((f_refused (Int32.toNatClampNeg v5)) ||| ((1 : Int32) <<< ((v6 : Int32) &&& 31)))))) else (ogi v7_217 6 ((m_X8_stable_246 k71 k82 f_may f_ranks f_worths v1 v2 v3 1 v5 v6 (upd f_best (Int32.toNatClampNeg v7_217) (-6)) f_holds (upd f_refused (Int32.toNatClampNeg v5) ((f_refused (Int32.toNatClampNeg v5)) ||| ((1 : Int32) <<< ((v6 : Int32) &&& 31))))))))))))))) else (ogb (m_X8_has v1 v5) (fun q_105 => if q_105 = 0 then ((m_X8_stable_152 k71 k82 k96 f_may f_ranks f_worths v1 v2 v3 v4 v5 v6 v7 f_best f_holds f_refused)) else (ogi v5 6 (if 0 ≤ (f_best (Int32.toNatClampNeg v5)) then ((m_X8_stable_152 k71 k82 k96 f_may f_ranks f_worths v1 v2 v3 v4 v5 v6 v7 f_best f_holds f_refused)) else (ogi v5 6 (ogi v5 6 (ogb (m_X8_has ((v2 &&& (f_may (Int32.toNatClampNeg v5))) &&& (((f_refused (Int32.toNatClampNeg v5)) : Int32) ^^^ ((-1) : Int32))) v7) (fun q_142 => if q_142 = 0 then ((m_X8_stable_152 k71 k82 k96 f_may f_ranks f_worths v1 v2 v3 v4 v5 v6 v7 f_best f_holds f_refused)) else ((m_X8_stable_153 k71 k82 k96 f_may f_ranks f_worths v1 v2 v3 v4 v5 v6 v7 1 f_best f_holds f_refused))))))))))
noncomputable def m_X8_stable_96 (k71 : Int32 → Int32 → Int32 → Int32 → (Nat → Int32) → (Nat → Int32) → (Nat → Int32) → Option (Int32 × ((Nat → Int32) × (Nat → Int32) × (Nat → Int32)))) (k82 : Int32 → Int32 → Int32 → Int32 → Int32 → (Nat → Int32) → (Nat → Int32) → (Nat → Int32) → Option (Int32 × ((Nat → Int32) × (Nat → Int32) × (Nat → Int32)))) (f_may : (Nat → Int32)) (f_ranks : (Nat → Int32)) (f_worths : (Nat → Int32)) (fuel : Nat) : Int32 → Int32 → Int32 → Int32 → Int32 → Int32 → Int32 → (Nat → Int32) → (Nat → Int32) → (Nat → Int32) → Option (Int32 × ((Nat → Int32) × (Nat → Int32) × (Nat → Int32))) := Nat.rec (fun _ _ _ _ _ _ _ _ _ _ => none) (fun _ k96 => m_X8_stable_96b k71 k82 k96 f_may f_ranks f_worths) fuel
noncomputable def m_X8_stable_82b (k71 : Int32 → Int32 → Int32 → Int32 → (Nat → Int32) → (Nat → Int32) → (Nat → Int32) → Option (Int32 × ((Nat → Int32) × (Nat → Int32) × (Nat → Int32)))) (k82 : Int32 → Int32 → Int32 → Int32 → Int32 → (Nat → Int32) → (Nat → Int32) → (Nat → Int32) → Option (Int32 × ((Nat → Int32) × (Nat → Int32) × (Nat → Int32)))) (f_may : (Nat → Int32)) (f_ranks : (Nat → Int32)) (f_worths : (Nat → Int32)) (v1 : Int32) (v2 : Int32) (v3 : Int32) (v4 : Int32) (v5 : Int32) (f_best : (Nat → Int32)) (f_holds : (Nat → Int32)) (f_refused : (Nat → Int32)) : Option (Int32 × ((Nat → Int32) × (Nat → Int32) × (Nat → Int32))) := if 6 ≤ v5 then ((k71 v1 v2 v3 v4 f_best f_holds f_refused)) else ((m_X8_stable_96 k71 k82 f_may f_ranks f_worths 1000000 v1 v2 v3 v4 v5 (-6) 0 f_best f_holds f_refused))
noncomputable def m_X8_stable_82 (k71 : Int32 → Int32 → Int32 → Int32 → (Nat → Int32) → (Nat → Int32) → (Nat → Int32) → Option (Int32 × ((Nat → Int32) × (Nat → Int32) × (Nat → Int32)))) (f_may : (Nat → Int32)) (f_ranks : (Nat → Int32)) (f_worths : (Nat → Int32)) (fuel : Nat) : Int32 → Int32 → Int32 → Int32 → Int32 → (Nat → Int32) → (Nat → Int32) → (Nat → Int32) → Option (Int32 × ((Nat → Int32) × (Nat → Int32) × (Nat → Int32))) := Nat.rec (fun _ _ _ _ _ _ _ _ => none) (fun _ k82 => m_X8_stable_82b k71 k82 f_may f_ranks f_worths) fuel
noncomputable def m_X8_stable_71b (k71 : Int32 → Int32 → Int32 → Int32 → (Nat → Int32) → (Nat → Int32) → (Nat → Int32) → Option (Int32 × ((Nat → Int32) × (Nat → Int32) × (Nat → Int32)))) (f_may : (Nat → Int32)) (f_ranks : (Nat → Int32)) (f_worths : (Nat → Int32)) (v1 : Int32) (v2 : Int32) (v3 : Int32) (v4 : Int32) (f_best : (Nat → Int32)) (f_holds : (Nat → Int32)) (f_refused : (Nat → Int32)) : Option (Int32 × ((Nat → Int32) × (Nat → Int32) × (Nat → Int32))) := if v4 = 0 then (ogb (m_X8_toldOf f_best f_worths v3) (fun q_275 => some (q_275, (f_best, f_holds, f_refused)))) else ((m_X8_stable_82 k71 f_may f_ranks f_worths 1000000 v1 v2 v3 0 0 f_best f_holds f_refused))
noncomputable def m_X8_stable_71 (f_may : (Nat → Int32)) (f_ranks : (Nat → Int32)) (f_worths : (Nat → Int32)) (fuel : Nat) : Int32 → Int32 → Int32 → Int32 → (Nat → Int32) → (Nat → Int32) → (Nat → Int32) → Option (Int32 × ((Nat → Int32) × (Nat → Int32) × (Nat → Int32))) := Nat.rec (fun _ _ _ _ _ _ _ => none) (fun _ k71 => m_X8_stable_71b k71 f_may f_ranks f_worths) fuel
noncomputable def m_X8_stable_47b (k47 : Int32 → Int32 → Int32 → Int32 → (Nat → Int32) → (Nat → Int32) → (Nat → Int32) → Option (Int32 × ((Nat → Int32) × (Nat → Int32) × (Nat → Int32)))) (f_may : (Nat → Int32)) (f_ranks : (Nat → Int32)) (f_worths : (Nat → Int32)) (v1 : Int32) (v2 : Int32) (v3 : Int32) (v4 : Int32) (f_best : (Nat → Int32)) (f_holds : (Nat → Int32)) (f_refused : (Nat → Int32)) : Option (Int32 × ((Nat → Int32) × (Nat → Int32) × (Nat → Int32))) := if 5 ≤ v4 then ((m_X8_stable_71 f_may f_ranks f_worths 1000000 v1 v2 v3 1 f_best f_holds f_refused)) else (ogi v4 5 (ogl (v4 + 1) (fun (v4_62 : Int32) => (k47 v1 v2 v3 v4_62 f_best (upd f_holds (Int32.toNatClampNeg v4) (-6)) f_refused))))
noncomputable def m_X8_stable_47 (f_may : (Nat → Int32)) (f_ranks : (Nat → Int32)) (f_worths : (Nat → Int32)) (fuel : Nat) : Int32 → Int32 → Int32 → Int32 → (Nat → Int32) → (Nat → Int32) → (Nat → Int32) → Option (Int32 × ((Nat → Int32) × (Nat → Int32) × (Nat → Int32))) := Nat.rec (fun _ _ _ _ _ _ _ => none) (fun _ k47 => m_X8_stable_47b k47 f_may f_ranks f_worths) fuel
noncomputable def m_X8_stable_14b (k14 : Int32 → Int32 → Int32 → Int32 → (Nat → Int32) → (Nat → Int32) → (Nat → Int32) → Option (Int32 × ((Nat → Int32) × (Nat → Int32) × (Nat → Int32)))) (f_may : (Nat → Int32)) (f_ranks : (Nat → Int32)) (f_worths : (Nat → Int32)) (v1 : Int32) (v2 : Int32) (v3 : Int32) (v4 : Int32) (f_best : (Nat → Int32)) (f_holds : (Nat → Int32)) (f_refused : (Nat → Int32)) : Option (Int32 × ((Nat → Int32) × (Nat → Int32) × (Nat → Int32))) := if 6 ≤ v4 then ((m_X8_stable_47 f_may f_ranks f_worths 1000000 v1 v2 v3 0 f_best f_holds f_refused)) else (ogi v4 6 (ogi v4 6 (ogl (v4 + 1) (fun (v4_38 : Int32) => (k14 v1 v2 v3 v4_38 (upd f_best (Int32.toNatClampNeg v4) (-6)) f_holds (upd f_refused (Int32.toNatClampNeg v4) 0))))))
noncomputable def m_X8_stable_14 (f_may : (Nat → Int32)) (f_ranks : (Nat → Int32)) (f_worths : (Nat → Int32)) (fuel : Nat) : Int32 → Int32 → Int32 → Int32 → (Nat → Int32) → (Nat → Int32) → (Nat → Int32) → Option (Int32 × ((Nat → Int32) × (Nat → Int32) × (Nat → Int32))) := Nat.rec (fun _ _ _ _ _ _ _ => none) (fun _ k14 => m_X8_stable_14b k14 f_may f_ranks f_worths) fuel
noncomputable def m_X8_stable (f_may : (Nat → Int32)) (f_ranks : (Nat → Int32)) (f_worths : (Nat → Int32)) (f_best : (Nat → Int32)) (f_holds : (Nat → Int32)) (f_refused : (Nat → Int32)) (v1 : Int32) (v2 : Int32) (v3 : Int32) : Option (Int32 × ((Nat → Int32) × (Nat → Int32) × (Nat → Int32))) := ogb (m_X8_areSets v1 v2) (fun q_2 => if q_2 = 0 then (some ((-2), (f_best, f_holds, f_refused))) else ((m_X8_stable_14 f_may f_ranks f_worths 1000000 v1 v2 v3 0 f_best f_holds f_refused)))
set_option maxHeartbeats 4000000 in
set_option maxRecDepth 100000 in
theorem c_X8_stable (l : Launch) (D : va_G) (cI cZ : ClassId) (a_t a_best a_holds a_may a_ranks a_refused a_worths b_voyage b_lucky b_pad b_bears b_due b_borneBy b_gone b_sunk b_times b_whoBore b_gives b_sums b_image b_isKept : Nat) (f_best : (Nat → Int32)) (f_holds : (Nat → Int32)) (f_may : (Nat → Int32)) (f_ranks : (Nat → Int32)) (f_refused : (Nat → Int32)) (f_worths : (Nat → Int32)) (x_t_signs : Int32) (x_t_day : Int32) (x_t_reason : Int32) (x_t_asked : Int32) (v1 : Int32) (v2 : Int32) (v3 : Int32) {res : (Int32 × ((Nat → Int32) × (Nat → Int32) × (Nat → Int32)))} (h : m_X8_stable f_may f_ranks f_worths f_best f_holds f_refused v1 v2 v3 = some res) : CT l yX8_stable wsX8_stable ({ frames := 3, cells := 0, slots := 0, locals := 63 } : Room) D cI cZ [.ref a_t, .int v1, .int v2, .int v3] [(a_t, .inr (8, [.ref a_may, .ref b_voyage, .ref b_lucky, .ref a_worths, .ref a_ranks, .int x_t_signs, .ref b_pad, .int x_t_day, .int x_t_reason, .ref b_bears, .ref b_due, .ref b_borneBy, .ref b_gone, .ref b_sunk, .ref b_times, .int x_t_asked, .ref b_whoBore, .ref b_gives, .ref a_best, .ref a_holds, .ref a_refused, .ref b_sums, .ref b_image, .ref b_isKept])), (a_best, .inl (cI, 6, .inl f_best)), (a_holds, .inl (cI, 5, .inl f_holds)), (a_may, .inl (cI, 6, .inl f_may)), (a_ranks, .inl (cI, 5, .inl f_ranks)), (a_refused, .inl (cI, 6, .inl f_refused)), (a_worths, .inl (cI, 30, .inl f_worths))] (QI D [(a_t, .inr (8, [.ref a_may, .ref b_voyage, .ref b_lucky, .ref a_worths, .ref a_ranks, .int x_t_signs, .ref b_pad, .int x_t_day, .int x_t_reason, .ref b_bears, .ref b_due, .ref b_borneBy, .ref b_gone, .ref b_sunk, .ref b_times, .int x_t_asked, .ref b_whoBore, .ref b_gives, .ref a_best, .ref a_holds, .ref a_refused, .ref b_sums, .ref b_image, .ref b_isKept])), (a_best, .inl (cI, 6, .inl f_best)), (a_holds, .inl (cI, 5, .inl f_holds)), (a_may, .inl (cI, 6, .inl f_may)), (a_ranks, .inl (cI, 5, .inl f_ranks)), (a_refused, .inl (cI, 6, .inl f_refused)), (a_worths, .inl (cI, 30, .inl f_worths))] (fun (r : Int32) (u : (Nat → Int32) × (Nat → Int32) × (Nat → Int32)) => r = res.1 ∧ u = res.2) (fun (u : (Nat → Int32) × (Nat → Int32) × (Nat → Int32)) => [(a_t, .inr (8, [.ref a_may, .ref b_voyage, .ref b_lucky, .ref a_worths, .ref a_ranks, .int x_t_signs, .ref b_pad, .int x_t_day, .int x_t_reason, .ref b_bears, .ref b_due, .ref b_borneBy, .ref b_gone, .ref b_sunk, .ref b_times, .int x_t_asked, .ref b_whoBore, .ref b_gives, .ref a_best, .ref a_holds, .ref a_refused, .ref b_sums, .ref b_image, .ref b_isKept])), (a_best, .inl (cI, 6, .inl u.1)), (a_holds, .inl (cI, 5, .inl u.2.1)), (a_may, .inl (cI, 6, .inl f_may)), (a_ranks, .inl (cI, 5, .inl f_ranks)), (a_refused, .inl (cI, 6, .inl u.2.2)), (a_worths, .inl (cI, 30, .inl f_worths))])) 0 0 := by
  have h : (ogb (m_X8_areSets v1 v2) (fun q_2 => if q_2 = 0 then (some ((-2), (f_best, f_holds, f_refused))) else ((m_X8_stable_14 f_may f_ranks f_worths 1000000 v1 v2 v3 0 f_best f_holds f_refused))) : Option (Int32 × ((Nat → Int32) × (Nat → Int32) × (Nat → Int32)))) = some res := h
  refine ct_entry (cc := cX8_stable) (nl := 9) (ret := (some .int)) (own := RX8) (lv0 := [(0, .ref a_t), (1, .int v1), (2, .int v2), (3, .int v3)]) (by decide) rfl rfl (Nat.le_of_ble_eq_true rfl) rfl ?_
  intro p e s m args below meth c A Q hA hQ hr hnm B
  have iX8 : ∀ w ∈ wsX80, w ∈ wsX8_stable := by decide +kernel
  have cut_71 : ∀ (fuel : Nat) (v1 : Int32) (v2 : Int32) (v3 : Int32) (v4 : Int32) (f_best : (Nat → Int32)) (f_holds : (Nat → Int32)) (f_refused : (Nat → Int32)), m_X8_stable_71 f_may f_ranks f_worths fuel v1 v2 v3 v4 f_best f_holds f_refused = some res → WW p l e (headSpec wsX8_stable ({ frames := 3, cells := 0, slots := 0, locals := 63 } : Room)).room s m args below meth c D A 9 0 0 Q [(a_t, .inr (8, [.ref a_may, .ref b_voyage, .ref b_lucky, .ref a_worths, .ref a_ranks, .int x_t_signs, .ref b_pad, .int x_t_day, .int x_t_reason, .ref b_bears, .ref b_due, .ref b_borneBy, .ref b_gone, .ref b_sunk, .ref b_times, .int x_t_asked, .ref b_whoBore, .ref b_gives, .ref a_best, .ref a_holds, .ref a_refused, .ref b_sums, .ref b_image, .ref b_isKept])), (a_best, .inl (cI, 6, .inl f_best)), (a_holds, .inl (cI, 5, .inl f_holds)), (a_may, .inl (cI, 6, .inl f_may)), (a_ranks, .inl (cI, 5, .inl f_ranks)), (a_refused, .inl (cI, 6, .inl f_refused)), (a_worths, .inl (cI, 30, .inl f_worths))] [(0, .ref a_t), (1, .int v1), (2, .int v2), (3, .int v3), (4, .int v4)] [] 71 := by
    intro fuel_71
    induction fuel_71 with
    | zero => intro v1 v2 v3 v4 f_best f_holds f_refused h; exact og_0 h
    | succ fuel_71 ih_71 =>
      have cut_82 : ∀ (fuel : Nat) (v1 : Int32) (v2 : Int32) (v3 : Int32) (v4 : Int32) (v5 : Int32) (f_best : (Nat → Int32)) (f_holds : (Nat → Int32)) (f_refused : (Nat → Int32)), m_X8_stable_82 (m_X8_stable_71 f_may f_ranks f_worths fuel_71) f_may f_ranks f_worths fuel v1 v2 v3 v4 v5 f_best f_holds f_refused = some res → WW p l e (headSpec wsX8_stable ({ frames := 3, cells := 0, slots := 0, locals := 63 } : Room)).room s m args below meth c D A 9 0 0 Q [(a_t, .inr (8, [.ref a_may, .ref b_voyage, .ref b_lucky, .ref a_worths, .ref a_ranks, .int x_t_signs, .ref b_pad, .int x_t_day, .int x_t_reason, .ref b_bears, .ref b_due, .ref b_borneBy, .ref b_gone, .ref b_sunk, .ref b_times, .int x_t_asked, .ref b_whoBore, .ref b_gives, .ref a_best, .ref a_holds, .ref a_refused, .ref b_sums, .ref b_image, .ref b_isKept])), (a_best, .inl (cI, 6, .inl f_best)), (a_holds, .inl (cI, 5, .inl f_holds)), (a_may, .inl (cI, 6, .inl f_may)), (a_ranks, .inl (cI, 5, .inl f_ranks)), (a_refused, .inl (cI, 6, .inl f_refused)), (a_worths, .inl (cI, 30, .inl f_worths))] [(0, .ref a_t), (1, .int v1), (2, .int v2), (3, .int v3), (4, .int v4), (5, .int v5)] [] 82 := by
        intro fuel_82
        induction fuel_82 with
        | zero => intro v1 v2 v3 v4 v5 f_best f_holds f_refused h; exact og_0 h
        | succ fuel_82 ih_82 =>
          have cut_264 : ∀ (v1 : Int32) (v2 : Int32) (v3 : Int32) (v4 : Int32) (v5 : Int32) (f_best : (Nat → Int32)) (f_holds : (Nat → Int32)) (f_refused : (Nat → Int32)), m_X8_stable_264 (m_X8_stable_71 f_may f_ranks f_worths fuel_71) (m_X8_stable_82 (m_X8_stable_71 f_may f_ranks f_worths fuel_71) f_may f_ranks f_worths fuel_82) f_may f_ranks f_worths v1 v2 v3 v4 v5 f_best f_holds f_refused = some res → WW p l e (headSpec wsX8_stable ({ frames := 3, cells := 0, slots := 0, locals := 63 } : Room)).room s m args below meth c D A 9 0 0 Q [(a_t, .inr (8, [.ref a_may, .ref b_voyage, .ref b_lucky, .ref a_worths, .ref a_ranks, .int x_t_signs, .ref b_pad, .int x_t_day, .int x_t_reason, .ref b_bears, .ref b_due, .ref b_borneBy, .ref b_gone, .ref b_sunk, .ref b_times, .int x_t_asked, .ref b_whoBore, .ref b_gives, .ref a_best, .ref a_holds, .ref a_refused, .ref b_sums, .ref b_image, .ref b_isKept])), (a_best, .inl (cI, 6, .inl f_best)), (a_holds, .inl (cI, 5, .inl f_holds)), (a_may, .inl (cI, 6, .inl f_may)), (a_ranks, .inl (cI, 5, .inl f_ranks)), (a_refused, .inl (cI, 6, .inl f_refused)), (a_worths, .inl (cI, 30, .inl f_worths))] [(0, .ref a_t), (1, .int v1), (2, .int v2), (3, .int v3), (4, .int v4), (5, .int v5)] [] 264 := by
            intro v1 v2 v3 v4 v5 f_best f_holds f_refused h
            replace h : (ogl (v5 + 1) (fun (v5_264 : Int32) => ((m_X8_stable_82 (m_X8_stable_71 f_may f_ranks f_worths fuel_71) f_may f_ranks f_worths fuel_82) v1 v2 v3 v4 v5_264 f_best f_holds f_refused)) : Option (Int32 × ((Nat → Int32) × (Nat → Int32) × (Nat → Int32)))) = some res := h
            obtain ⟨v5_264, ev5_264⟩ : ∃ y : Int32, y = (v5 + 1) := ⟨_, rfl⟩
            refine ww_iinc B dX8_stable_264 5 rfl (v := v5_264) (by rw [ev5_264]; rfl) (by decide) (lv' := [(5, .int v5_264), (0, .ref a_t), (1, .int v1), (2, .int v2), (3, .int v3), (4, .int v4)]) rfl ?_
            replace h := og_l ev5_264 h
            refine ww_goto B 82 dX8_stable_267 (by decide) ?_
            refine ww_lsel (lv' := [(0, .ref a_t), (1, .int v1), (2, .int v2), (3, .int v3), (4, .int v4), (5, .int v5_264)]) [1, 2, 3, 4, 5, 0] rfl ?_
            exact ih_82 _ _ _ _ _ _ _ _ h
          have cut_246 : ∀ (v1 : Int32) (v2 : Int32) (v3 : Int32) (v4 : Int32) (v5 : Int32) (v6 : Int32) (f_best : (Nat → Int32)) (f_holds : (Nat → Int32)) (f_refused : (Nat → Int32)), m_X8_stable_246 (m_X8_stable_71 f_may f_ranks f_worths fuel_71) (m_X8_stable_82 (m_X8_stable_71 f_may f_ranks f_worths fuel_71) f_may f_ranks f_worths fuel_82) f_may f_ranks f_worths v1 v2 v3 v4 v5 v6 f_best f_holds f_refused = some res → WW p l e (headSpec wsX8_stable ({ frames := 3, cells := 0, slots := 0, locals := 63 } : Room)).room s m args below meth c D A 9 0 0 Q [(a_t, .inr (8, [.ref a_may, .ref b_voyage, .ref b_lucky, .ref a_worths, .ref a_ranks, .int x_t_signs, .ref b_pad, .int x_t_day, .int x_t_reason, .ref b_bears, .ref b_due, .ref b_borneBy, .ref b_gone, .ref b_sunk, .ref b_times, .int x_t_asked, .ref b_whoBore, .ref b_gives, .ref a_best, .ref a_holds, .ref a_refused, .ref b_sums, .ref b_image, .ref b_isKept])), (a_best, .inl (cI, 6, .inl f_best)), (a_holds, .inl (cI, 5, .inl f_holds)), (a_may, .inl (cI, 6, .inl f_may)), (a_ranks, .inl (cI, 5, .inl f_ranks)), (a_refused, .inl (cI, 6, .inl f_refused)), (a_worths, .inl (cI, 30, .inl f_worths))] [(0, .ref a_t), (1, .int v1), (2, .int v2), (3, .int v3), (4, .int v4), (5, .int v5), (6, .int v6)] [] 246 := by
            intro v1 v2 v3 v4 v5 v6 f_best f_holds f_refused h
            replace h : (ogi v6 5 (ogi v5 6 ((m_X8_stable_264 (m_X8_stable_71 f_may f_ranks f_worths fuel_71) (m_X8_stable_82 (m_X8_stable_71 f_may f_ranks f_worths fuel_71) f_may f_ranks f_worths fuel_82) f_may f_ranks f_worths v1 v2 v3 v4 v5 (upd f_best (Int32.toNatClampNeg v5) v6) (upd f_holds (Int32.toNatClampNeg v6) v5) f_refused))) : Option (Int32 × ((Nat → Int32) × (Nat → Int32) × (Nat → Int32)))) = some res := h
            refine ww_aload_n B dX8_stable_246 0 rfl ?_
            refine ww_get (ci := 8) (T := TX8) (C := RX8) (N := 24) B iX8 0 rfl rfl 19 (by decide) (by decide +kernel) rfl rfl dX8_stable_247 ?_
            refine ww_iload B dX8_stable_250 6 rfl ?_
            refine ww_iload B dX8_stable_252 5 rfl ?_
            obtain ⟨i_254, h⟩ := og_i h
            refine ww_iast B 2 rfl i_254 dX8_stable_254 (ws' := [(a_t, .inr (8, [.ref a_may, .ref b_voyage, .ref b_lucky, .ref a_worths, .ref a_ranks, .int x_t_signs, .ref b_pad, .int x_t_day, .int x_t_reason, .ref b_bears, .ref b_due, .ref b_borneBy, .ref b_gone, .ref b_sunk, .ref b_times, .int x_t_asked, .ref b_whoBore, .ref b_gives, .ref a_best, .ref a_holds, .ref a_refused, .ref b_sums, .ref b_image, .ref b_isKept])), (a_best, .inl (cI, 6, .inl f_best)), (a_holds, .inl (cI, 5, .inl (upd f_holds (Int32.toNatClampNeg v6) v5))), (a_may, .inl (cI, 6, .inl f_may)), (a_ranks, .inl (cI, 5, .inl f_ranks)), (a_refused, .inl (cI, 6, .inl f_refused)), (a_worths, .inl (cI, 30, .inl f_worths))]) rfl ?_
            refine ww_aload_n B dX8_stable_255 0 rfl ?_
            refine ww_get (ci := 8) (T := TX8) (C := RX8) (N := 24) B iX8 0 rfl rfl 18 (by decide) (by decide +kernel) rfl rfl dX8_stable_256 ?_
            refine ww_iload B dX8_stable_259 5 rfl ?_
            refine ww_iload B dX8_stable_261 6 rfl ?_
            obtain ⟨i_263, h⟩ := og_i h
            refine ww_iast B 1 rfl i_263 dX8_stable_263 (ws' := [(a_t, .inr (8, [.ref a_may, .ref b_voyage, .ref b_lucky, .ref a_worths, .ref a_ranks, .int x_t_signs, .ref b_pad, .int x_t_day, .int x_t_reason, .ref b_bears, .ref b_due, .ref b_borneBy, .ref b_gone, .ref b_sunk, .ref b_times, .int x_t_asked, .ref b_whoBore, .ref b_gives, .ref a_best, .ref a_holds, .ref a_refused, .ref b_sums, .ref b_image, .ref b_isKept])), (a_best, .inl (cI, 6, .inl (upd f_best (Int32.toNatClampNeg v5) v6))), (a_holds, .inl (cI, 5, .inl (upd f_holds (Int32.toNatClampNeg v6) v5))), (a_may, .inl (cI, 6, .inl f_may)), (a_ranks, .inl (cI, 5, .inl f_ranks)), (a_refused, .inl (cI, 6, .inl f_refused)), (a_worths, .inl (cI, 30, .inl f_worths))]) rfl ?_
            refine ww_lsel (lv' := [(0, .ref a_t), (1, .int v1), (2, .int v2), (3, .int v3), (4, .int v4), (5, .int v5)]) [0, 1, 2, 3, 4, 5] rfl ?_
            exact cut_264 _ _ _ _ _ _ _ _ h
          have cut_96 : ∀ (fuel : Nat) (v1 : Int32) (v2 : Int32) (v3 : Int32) (v4 : Int32) (v5 : Int32) (v6 : Int32) (v7 : Int32) (f_best : (Nat → Int32)) (f_holds : (Nat → Int32)) (f_refused : (Nat → Int32)), m_X8_stable_96 (m_X8_stable_71 f_may f_ranks f_worths fuel_71) (m_X8_stable_82 (m_X8_stable_71 f_may f_ranks f_worths fuel_71) f_may f_ranks f_worths fuel_82) f_may f_ranks f_worths fuel v1 v2 v3 v4 v5 v6 v7 f_best f_holds f_refused = some res → WW p l e (headSpec wsX8_stable ({ frames := 3, cells := 0, slots := 0, locals := 63 } : Room)).room s m args below meth c D A 9 0 0 Q [(a_t, .inr (8, [.ref a_may, .ref b_voyage, .ref b_lucky, .ref a_worths, .ref a_ranks, .int x_t_signs, .ref b_pad, .int x_t_day, .int x_t_reason, .ref b_bears, .ref b_due, .ref b_borneBy, .ref b_gone, .ref b_sunk, .ref b_times, .int x_t_asked, .ref b_whoBore, .ref b_gives, .ref a_best, .ref a_holds, .ref a_refused, .ref b_sums, .ref b_image, .ref b_isKept])), (a_best, .inl (cI, 6, .inl f_best)), (a_holds, .inl (cI, 5, .inl f_holds)), (a_may, .inl (cI, 6, .inl f_may)), (a_ranks, .inl (cI, 5, .inl f_ranks)), (a_refused, .inl (cI, 6, .inl f_refused)), (a_worths, .inl (cI, 30, .inl f_worths))] [(0, .ref a_t), (1, .int v1), (2, .int v2), (3, .int v3), (4, .int v4), (5, .int v5), (6, .int v6), (7, .int v7)] [] 96 := by
            intro fuel_96
            induction fuel_96 with
            | zero => intro v1 v2 v3 v4 v5 v6 v7 f_best f_holds f_refused h; exact og_0 h
            | succ fuel_96 ih_96 =>
              have cut_180 : ∀ (v1 : Int32) (v2 : Int32) (v3 : Int32) (v4 : Int32) (v5 : Int32) (v7 : Int32) (s0 : Int32) (f_best : (Nat → Int32)) (f_holds : (Nat → Int32)) (f_refused : (Nat → Int32)), m_X8_stable_180 (m_X8_stable_71 f_may f_ranks f_worths fuel_71) (m_X8_stable_82 (m_X8_stable_71 f_may f_ranks f_worths fuel_71) f_may f_ranks f_worths fuel_82) (m_X8_stable_96 (m_X8_stable_71 f_may f_ranks f_worths fuel_71) (m_X8_stable_82 (m_X8_stable_71 f_may f_ranks f_worths fuel_71) f_may f_ranks f_worths fuel_82) f_may f_ranks f_worths fuel_96) f_may f_ranks f_worths v1 v2 v3 v4 v5 v7 s0 f_best f_holds f_refused = some res → WW p l e (headSpec wsX8_stable ({ frames := 3, cells := 0, slots := 0, locals := 63 } : Room)).room s m args below meth c D A 9 0 0 Q [(a_t, .inr (8, [.ref a_may, .ref b_voyage, .ref b_lucky, .ref a_worths, .ref a_ranks, .int x_t_signs, .ref b_pad, .int x_t_day, .int x_t_reason, .ref b_bears, .ref b_due, .ref b_borneBy, .ref b_gone, .ref b_sunk, .ref b_times, .int x_t_asked, .ref b_whoBore, .ref b_gives, .ref a_best, .ref a_holds, .ref a_refused, .ref b_sums, .ref b_image, .ref b_isKept])), (a_best, .inl (cI, 6, .inl f_best)), (a_holds, .inl (cI, 5, .inl f_holds)), (a_may, .inl (cI, 6, .inl f_may)), (a_ranks, .inl (cI, 5, .inl f_ranks)), (a_refused, .inl (cI, 6, .inl f_refused)), (a_worths, .inl (cI, 30, .inl f_worths))] [(0, .ref a_t), (1, .int v1), (2, .int v2), (3, .int v3), (4, .int v4), (5, .int v5), (7, .int v7)] [.int s0] 180 := by
                intro v1 v2 v3 v4 v5 v7 s0 f_best f_holds f_refused h
                replace h : (ogl (v7 + 1) (fun (v7_182 : Int32) => ((m_X8_stable_96 (m_X8_stable_71 f_may f_ranks f_worths fuel_71) (m_X8_stable_82 (m_X8_stable_71 f_may f_ranks f_worths fuel_71) f_may f_ranks f_worths fuel_82) f_may f_ranks f_worths fuel_96) v1 v2 v3 v4 v5 s0 v7_182 f_best f_holds f_refused)) : Option (Int32 × ((Nat → Int32) × (Nat → Int32) × (Nat → Int32)))) = some res := h
                refine ww_istore B dX8_stable_180 (lv' := [(6, .int s0), (0, .ref a_t), (1, .int v1), (2, .int v2), (3, .int v3), (4, .int v4), (5, .int v5), (7, .int v7)]) (by decide) rfl ?_
                obtain ⟨v7_182, ev7_182⟩ : ∃ y : Int32, y = (v7 + 1) := ⟨_, rfl⟩
                refine ww_iinc B dX8_stable_182 7 rfl (v := v7_182) (by rw [ev7_182]; rfl) (by decide) (lv' := [(7, .int v7_182), (6, .int s0), (0, .ref a_t), (1, .int v1), (2, .int v2), (3, .int v3), (4, .int v4), (5, .int v5)]) rfl ?_
                replace h := og_l ev7_182 h
                refine ww_goto B 96 dX8_stable_185 (by decide) ?_
                refine ww_lsel (lv' := [(0, .ref a_t), (1, .int v1), (2, .int v2), (3, .int v3), (4, .int v4), (5, .int v5), (6, .int s0), (7, .int v7_182)]) [2, 3, 4, 5, 6, 7, 1, 0] rfl ?_
                exact ih_96 _ _ _ _ _ _ _ _ _ _ h
              have cut_178 : ∀ (v1 : Int32) (v2 : Int32) (v3 : Int32) (v4 : Int32) (v5 : Int32) (v6 : Int32) (v7 : Int32) (f_best : (Nat → Int32)) (f_holds : (Nat → Int32)) (f_refused : (Nat → Int32)), m_X8_stable_178 (m_X8_stable_71 f_may f_ranks f_worths fuel_71) (m_X8_stable_82 (m_X8_stable_71 f_may f_ranks f_worths fuel_71) f_may f_ranks f_worths fuel_82) (m_X8_stable_96 (m_X8_stable_71 f_may f_ranks f_worths fuel_71) (m_X8_stable_82 (m_X8_stable_71 f_may f_ranks f_worths fuel_71) f_may f_ranks f_worths fuel_82) f_may f_ranks f_worths fuel_96) f_may f_ranks f_worths v1 v2 v3 v4 v5 v6 v7 f_best f_holds f_refused = some res → WW p l e (headSpec wsX8_stable ({ frames := 3, cells := 0, slots := 0, locals := 63 } : Room)).room s m args below meth c D A 9 0 0 Q [(a_t, .inr (8, [.ref a_may, .ref b_voyage, .ref b_lucky, .ref a_worths, .ref a_ranks, .int x_t_signs, .ref b_pad, .int x_t_day, .int x_t_reason, .ref b_bears, .ref b_due, .ref b_borneBy, .ref b_gone, .ref b_sunk, .ref b_times, .int x_t_asked, .ref b_whoBore, .ref b_gives, .ref a_best, .ref a_holds, .ref a_refused, .ref b_sums, .ref b_image, .ref b_isKept])), (a_best, .inl (cI, 6, .inl f_best)), (a_holds, .inl (cI, 5, .inl f_holds)), (a_may, .inl (cI, 6, .inl f_may)), (a_ranks, .inl (cI, 5, .inl f_ranks)), (a_refused, .inl (cI, 6, .inl f_refused)), (a_worths, .inl (cI, 30, .inl f_worths))] [(0, .ref a_t), (1, .int v1), (2, .int v2), (3, .int v3), (4, .int v4), (5, .int v5), (6, .int v6), (7, .int v7)] [] 178 := by
                intro v1 v2 v3 v4 v5 v6 v7 f_best f_holds f_refused h
                replace h : ((m_X8_stable_180 (m_X8_stable_71 f_may f_ranks f_worths fuel_71) (m_X8_stable_82 (m_X8_stable_71 f_may f_ranks f_worths fuel_71) f_may f_ranks f_worths fuel_82) (m_X8_stable_96 (m_X8_stable_71 f_may f_ranks f_worths fuel_71) (m_X8_stable_82 (m_X8_stable_71 f_may f_ranks f_worths fuel_71) f_may f_ranks f_worths fuel_82) f_may f_ranks f_worths fuel_96) f_may f_ranks f_worths v1 v2 v3 v4 v5 v7 v6 f_best f_holds f_refused) : Option (Int32 × ((Nat → Int32) × (Nat → Int32) × (Nat → Int32)))) = some res := h
                refine ww_iload B dX8_stable_178 6 rfl ?_
                refine ww_lsel (lv' := [(0, .ref a_t), (1, .int v1), (2, .int v2), (3, .int v3), (4, .int v4), (5, .int v5), (7, .int v7)]) [0, 1, 2, 3, 4, 5, 7] rfl ?_
                exact cut_180 _ _ _ _ _ _ _ _ _ _ h
              have cut_153 : ∀ (v1 : Int32) (v2 : Int32) (v3 : Int32) (v4 : Int32) (v5 : Int32) (v6 : Int32) (v7 : Int32) (s0 : Int32) (f_best : (Nat → Int32)) (f_holds : (Nat → Int32)) (f_refused : (Nat → Int32)), m_X8_stable_153 (m_X8_stable_71 f_may f_ranks f_worths fuel_71) (m_X8_stable_82 (m_X8_stable_71 f_may f_ranks f_worths fuel_71) f_may f_ranks f_worths fuel_82) (m_X8_stable_96 (m_X8_stable_71 f_may f_ranks f_worths fuel_71) (m_X8_stable_82 (m_X8_stable_71 f_may f_ranks f_worths fuel_71) f_may f_ranks f_worths fuel_82) f_may f_ranks f_worths fuel_96) f_may f_ranks f_worths v1 v2 v3 v4 v5 v6 v7 s0 f_best f_holds f_refused = some res → WW p l e (headSpec wsX8_stable ({ frames := 3, cells := 0, slots := 0, locals := 63 } : Room)).room s m args below meth c D A 9 0 0 Q [(a_t, .inr (8, [.ref a_may, .ref b_voyage, .ref b_lucky, .ref a_worths, .ref a_ranks, .int x_t_signs, .ref b_pad, .int x_t_day, .int x_t_reason, .ref b_bears, .ref b_due, .ref b_borneBy, .ref b_gone, .ref b_sunk, .ref b_times, .int x_t_asked, .ref b_whoBore, .ref b_gives, .ref a_best, .ref a_holds, .ref a_refused, .ref b_sums, .ref b_image, .ref b_isKept])), (a_best, .inl (cI, 6, .inl f_best)), (a_holds, .inl (cI, 5, .inl f_holds)), (a_may, .inl (cI, 6, .inl f_may)), (a_ranks, .inl (cI, 5, .inl f_ranks)), (a_refused, .inl (cI, 6, .inl f_refused)), (a_worths, .inl (cI, 30, .inl f_worths))] [(0, .ref a_t), (1, .int v1), (2, .int v2), (3, .int v3), (4, .int v4), (5, .int v5), (6, .int v6), (7, .int v7)] [.int s0] 153 := by
                intro v1 v2 v3 v4 v5 v6 v7 s0 f_best f_holds f_refused h
                replace h : (if s0 = 0 then ((m_X8_stable_178 (m_X8_stable_71 f_may f_ranks f_worths fuel_71) (m_X8_stable_82 (m_X8_stable_71 f_may f_ranks f_worths fuel_71) f_may f_ranks f_worths fuel_82) (m_X8_stable_96 (m_X8_stable_71 f_may f_ranks f_worths fuel_71) (m_X8_stable_82 (m_X8_stable_71 f_may f_ranks f_worths fuel_71) f_may f_ranks f_worths fuel_82) f_may f_ranks f_worths fuel_96) f_may f_ranks f_worths v1 v2 v3 v4 v5 v6 v7 f_best f_holds f_refused)) else (ogb (m_X8_likes f_worths v5 v7 v6) (fun q_167 => if q_167 = 0 then ((m_X8_stable_178 (m_X8_stable_71 f_may f_ranks f_worths fuel_71) (m_X8_stable_82 (m_X8_stable_71 f_may f_ranks f_worths fuel_71) f_may f_ranks f_worths fuel_82) (m_X8_stable_96 (m_X8_stable_71 f_may f_ranks f_worths fuel_71) (m_X8_stable_82 (m_X8_stable_71 f_may f_ranks f_worths fuel_71) f_may f_ranks f_worths fuel_82) f_may f_ranks f_worths fuel_96) f_may f_ranks f_worths v1 v2 v3 v4 v5 v6 v7 f_best f_holds f_refused)) else ((m_X8_stable_180 (m_X8_stable_71 f_may f_ranks f_worths fuel_71) (m_X8_stable_82 (m_X8_stable_71 f_may f_ranks f_worths fuel_71) f_may f_ranks f_worths fuel_82) (m_X8_stable_96 (m_X8_stable_71 f_may f_ranks f_worths fuel_71) (m_X8_stable_82 (m_X8_stable_71 f_may f_ranks f_worths fuel_71) f_may f_ranks f_worths fuel_82) f_may f_ranks f_worths fuel_96) f_may f_ranks f_worths v1 v2 v3 v4 v5 v7 v7 f_best f_holds f_refused)))) : Option (Int32 × ((Nat → Int32) × (Nat → Int32) × (Nat → Int32)))) = some res := h
                refine ww_istore B dX8_stable_153 (lv' := [(8, .int s0), (0, .ref a_t), (1, .int v1), (2, .int v2), (3, .int v3), (4, .int v4), (5, .int v5), (6, .int v6), (7, .int v7)]) (by decide) rfl ?_
                refine ww_iload B dX8_stable_155 0 rfl ?_
                refine ww_if_eq B 178 dX8_stable_157 (by decide) (fun c_157 => ?_) (fun c_157 => ?_)
                · replace h := og_t c_157 h
                  refine ww_lsel (lv' := [(0, .ref a_t), (1, .int v1), (2, .int v2), (3, .int v3), (4, .int v4), (5, .int v5), (6, .int v6), (7, .int v7)]) [1, 2, 3, 4, 5, 6, 7, 8] rfl ?_
                  exact cut_178 _ _ _ _ _ _ _ _ _ _ h
                · replace h := og_f c_157 h
                  refine ww_aload_n B dX8_stable_160 1 rfl ?_
                  refine ww_iload B dX8_stable_161 6 rfl ?_
                  refine ww_iload B dX8_stable_163 8 rfl ?_
                  refine ww_iload B dX8_stable_165 7 rfl ?_
                  obtain ⟨q_167, hq_167, h⟩ := og_b h
                  refine ww_ci0 B (k' := 0) (n' := 0) rfl rfl [0, 6] [1, 2, 3, 4, 5] (wr := [(a_best, .inl (cI, 6, .inl f_best)), (a_holds, .inl (cI, 5, .inl f_holds)), (a_may, .inl (cI, 6, .inl f_may)), (a_ranks, .inl (cI, 5, .inl f_ranks)), (a_refused, .inl (cI, 6, .inl f_refused))]) (st := []) rfl rfl (by decide) (rr_V B (c_X8_likes l D cI cZ a_t a_worths a_may b_voyage b_lucky a_ranks b_pad b_bears b_due b_borneBy b_gone b_sunk b_times b_whoBore b_gives a_best a_holds a_refused b_sums b_image b_isKept f_worths x_t_signs x_t_day x_t_reason x_t_asked v5 v7 v6 hq_167) gX8_stable_X8_likes rfl rfl rfl (N := 3) rfl (by decide +kernel) ⟨Nat.le_of_ble_eq_true rfl, Nat.le_of_ble_eq_true rfl⟩ rfl dX8_stable_167 0 rfl rfl (Nat.le_of_ble_eq_true rfl) ⟨Nat.le_of_ble_eq_true rfl, Nat.le_of_ble_eq_true rfl⟩) (ws' := [(a_best, .inl (cI, 6, .inl f_best)), (a_holds, .inl (cI, 5, .inl f_holds)), (a_may, .inl (cI, 6, .inl f_may)), (a_ranks, .inl (cI, 5, .inl f_ranks)), (a_refused, .inl (cI, 6, .inl f_refused)), (a_t, .inr (8, [.ref a_may, .ref b_voyage, .ref b_lucky, .ref a_worths, .ref a_ranks, .int x_t_signs, .ref b_pad, .int x_t_day, .int x_t_reason, .ref b_bears, .ref b_due, .ref b_borneBy, .ref b_gone, .ref b_sunk, .ref b_times, .int x_t_asked, .ref b_whoBore, .ref b_gives, .ref a_best, .ref a_holds, .ref a_refused, .ref b_sums, .ref b_image, .ref b_isKept])), (a_worths, .inl (cI, 30, .inl f_worths))]) rfl ?_
                  refine ww_if_eq B 178 dX8_stable_170 (by decide) (fun c_170 => ?_) (fun c_170 => ?_)
                  · replace h := og_t c_170 h
                    refine ww_sub (ws' := [(a_t, .inr (8, [.ref a_may, .ref b_voyage, .ref b_lucky, .ref a_worths, .ref a_ranks, .int x_t_signs, .ref b_pad, .int x_t_day, .int x_t_reason, .ref b_bears, .ref b_due, .ref b_borneBy, .ref b_gone, .ref b_sunk, .ref b_times, .int x_t_asked, .ref b_whoBore, .ref b_gives, .ref a_best, .ref a_holds, .ref a_refused, .ref b_sums, .ref b_image, .ref b_isKept])), (a_best, .inl (cI, 6, .inl f_best)), (a_holds, .inl (cI, 5, .inl f_holds)), (a_may, .inl (cI, 6, .inl f_may)), (a_ranks, .inl (cI, 5, .inl f_ranks)), (a_refused, .inl (cI, 6, .inl f_refused)), (a_worths, .inl (cI, 30, .inl f_worths))]) [5, 0, 1, 2, 3, 4, 6] rfl (by decide) ?_
                    refine ww_lsel (lv' := [(0, .ref a_t), (1, .int v1), (2, .int v2), (3, .int v3), (4, .int v4), (5, .int v5), (6, .int v6), (7, .int v7)]) [1, 2, 3, 4, 5, 6, 7, 8] rfl ?_
                    exact cut_178 _ _ _ _ _ _ _ _ _ _ h
                  · replace h := og_f c_170 h
                    refine ww_iload B dX8_stable_173 8 rfl ?_
                    refine ww_goto B 180 dX8_stable_175 (by decide) ?_
                    refine ww_sub (ws' := [(a_t, .inr (8, [.ref a_may, .ref b_voyage, .ref b_lucky, .ref a_worths, .ref a_ranks, .int x_t_signs, .ref b_pad, .int x_t_day, .int x_t_reason, .ref b_bears, .ref b_due, .ref b_borneBy, .ref b_gone, .ref b_sunk, .ref b_times, .int x_t_asked, .ref b_whoBore, .ref b_gives, .ref a_best, .ref a_holds, .ref a_refused, .ref b_sums, .ref b_image, .ref b_isKept])), (a_best, .inl (cI, 6, .inl f_best)), (a_holds, .inl (cI, 5, .inl f_holds)), (a_may, .inl (cI, 6, .inl f_may)), (a_ranks, .inl (cI, 5, .inl f_ranks)), (a_refused, .inl (cI, 6, .inl f_refused)), (a_worths, .inl (cI, 30, .inl f_worths))]) [5, 0, 1, 2, 3, 4, 6] rfl (by decide) ?_
                    refine ww_lsel (lv' := [(0, .ref a_t), (1, .int v1), (2, .int v2), (3, .int v3), (4, .int v4), (5, .int v5), (7, .int v7)]) [1, 2, 3, 4, 5, 6, 8] rfl ?_
                    exact cut_180 _ _ _ _ _ _ _ _ _ _ h
              have cut_152 : ∀ (v1 : Int32) (v2 : Int32) (v3 : Int32) (v4 : Int32) (v5 : Int32) (v6 : Int32) (v7 : Int32) (f_best : (Nat → Int32)) (f_holds : (Nat → Int32)) (f_refused : (Nat → Int32)), m_X8_stable_152 (m_X8_stable_71 f_may f_ranks f_worths fuel_71) (m_X8_stable_82 (m_X8_stable_71 f_may f_ranks f_worths fuel_71) f_may f_ranks f_worths fuel_82) (m_X8_stable_96 (m_X8_stable_71 f_may f_ranks f_worths fuel_71) (m_X8_stable_82 (m_X8_stable_71 f_may f_ranks f_worths fuel_71) f_may f_ranks f_worths fuel_82) f_may f_ranks f_worths fuel_96) f_may f_ranks f_worths v1 v2 v3 v4 v5 v6 v7 f_best f_holds f_refused = some res → WW p l e (headSpec wsX8_stable ({ frames := 3, cells := 0, slots := 0, locals := 63 } : Room)).room s m args below meth c D A 9 0 0 Q [(a_t, .inr (8, [.ref a_may, .ref b_voyage, .ref b_lucky, .ref a_worths, .ref a_ranks, .int x_t_signs, .ref b_pad, .int x_t_day, .int x_t_reason, .ref b_bears, .ref b_due, .ref b_borneBy, .ref b_gone, .ref b_sunk, .ref b_times, .int x_t_asked, .ref b_whoBore, .ref b_gives, .ref a_best, .ref a_holds, .ref a_refused, .ref b_sums, .ref b_image, .ref b_isKept])), (a_best, .inl (cI, 6, .inl f_best)), (a_holds, .inl (cI, 5, .inl f_holds)), (a_may, .inl (cI, 6, .inl f_may)), (a_ranks, .inl (cI, 5, .inl f_ranks)), (a_refused, .inl (cI, 6, .inl f_refused)), (a_worths, .inl (cI, 30, .inl f_worths))] [(0, .ref a_t), (1, .int v1), (2, .int v2), (3, .int v3), (4, .int v4), (5, .int v5), (6, .int v6), (7, .int v7)] [] 152 := by
                intro v1 v2 v3 v4 v5 v6 v7 f_best f_holds f_refused h
                replace h : ((m_X8_stable_153 (m_X8_stable_71 f_may f_ranks f_worths fuel_71) (m_X8_stable_82 (m_X8_stable_71 f_may f_ranks f_worths fuel_71) f_may f_ranks f_worths fuel_82) (m_X8_stable_96 (m_X8_stable_71 f_may f_ranks f_worths fuel_71) (m_X8_stable_82 (m_X8_stable_71 f_may f_ranks f_worths fuel_71) f_may f_ranks f_worths fuel_82) f_may f_ranks f_worths fuel_96) f_may f_ranks f_worths v1 v2 v3 v4 v5 v6 v7 0 f_best f_holds f_refused) : Option (Int32 × ((Nat → Int32) × (Nat → Int32) × (Nat → Int32)))) = some res := h
                refine ww_iconst B dX8_stable_152 (v := 0) (by decide) ?_
                exact cut_153 _ _ _ _ _ _ _ _ _ _ _ h
              intro v1 v2 v3 v4 v5 v6 v7 f_best f_holds f_refused h
              replace h : (if 5 ≤ v7 then (if v6 < 0 then ((m_X8_stable_264 (m_X8_stable_71 f_may f_ranks f_worths fuel_71) (m_X8_stable_82 (m_X8_stable_71 f_may f_ranks f_worths fuel_71) f_may f_ranks f_worths fuel_82) f_may f_ranks f_worths v1 v2 v3 v4 v5 f_best f_holds f_refused)) else (ogi v5 6 (ogi v5 6 (ogi v6 5 (ogl (f_holds (Int32.toNatClampNeg v6)) (fun (v7_217 : Int32) => ogb (m_X8_likesHull f_ranks v6 v5 v7_217) (fun q_226 => if q_226 = 0 then ((m_X8_stable_264 (m_X8_stable_71 f_may f_ranks f_worths fuel_71) (m_X8_stable_82 (m_X8_stable_71 f_may f_ranks f_worths fuel_71) f_may f_ranks f_worths fuel_82) f_may f_ranks f_worths v1 v2 v3 1 v5 f_best f_holds (upd f_refused (Int32.toNatClampNeg v5) ((f_refused (Int32.toNatClampNeg v5)) ||| ((1 : Int32) <<< ((v6 : Int32) &&& 31)))))) else (if v7_217 < 0 then ((m_X8_stable_246 (m_X8_stable_71 f_may f_ranks f_worths fuel_71) (m_X8_stable_82 (m_X8_stable_71 f_may f_ranks f_worths fuel_71) f_may f_ranks f_worths fuel_82) f_may f_ranks f_worths v1 v2 v3 1 v5 v6 f_best f_holds (upd f_refused (Int32.toNatClampNeg v5) ((f_refused (Int32.toNatClampNeg v5)) ||| ((1 : Int32) <<< ((v6 : Int32) &&& 31)))))) else (ogi v7_217 6 ((m_X8_stable_246 (m_X8_stable_71 f_may f_ranks f_worths fuel_71) (m_X8_stable_82 (m_X8_stable_71 f_may f_ranks f_worths fuel_71) f_may f_ranks f_worths fuel_82) f_may f_ranks f_worths v1 v2 v3 1 v5 v6 (upd f_best (Int32.toNatClampNeg v7_217) (-6)) f_holds (upd f_refused (Int32.toNatClampNeg v5) ((f_refused (Int32.toNatClampNeg v5)) ||| ((1 : Int32) <<< ((v6 : Int32) &&& 31))))))))))))))) else (ogb (m_X8_has v1 v5) (fun q_105 => if q_105 = 0 then ((m_X8_stable_152 (m_X8_stable_71 f_may f_ranks f_worths fuel_71) (m_X8_stable_82 (m_X8_stable_71 f_may f_ranks f_worths fuel_71) f_may f_ranks f_worths fuel_82) (m_X8_stable_96 (m_X8_stable_71 f_may f_ranks f_worths fuel_71) (m_X8_stable_82 (m_X8_stable_71 f_may f_ranks f_worths fuel_71) f_may f_ranks f_worths fuel_82) f_may f_ranks f_worths fuel_96) f_may f_ranks f_worths v1 v2 v3 v4 v5 v6 v7 f_best f_holds f_refused)) else (ogi v5 6 (if 0 ≤ (f_best (Int32.toNatClampNeg v5)) then ((m_X8_stable_152 (m_X8_stable_71 f_may f_ranks f_worths fuel_71) (m_X8_stable_82 (m_X8_stable_71 f_may f_ranks f_worths fuel_71) f_may f_ranks f_worths fuel_82) (m_X8_stable_96 (m_X8_stable_71 f_may f_ranks f_worths fuel_71) (m_X8_stable_82 (m_X8_stable_71 f_may f_ranks f_worths fuel_71) f_may f_ranks f_worths fuel_82) f_may f_ranks f_worths fuel_96) f_may f_ranks f_worths v1 v2 v3 v4 v5 v6 v7 f_best f_holds f_refused)) else (ogi v5 6 (ogi v5 6 (ogb (m_X8_has ((v2 &&& (f_may (Int32.toNatClampNeg v5))) &&& (((f_refused (Int32.toNatClampNeg v5)) : Int32) ^^^ ((-1) : Int32))) v7) (fun q_142 => if q_142 = 0 then ((m_X8_stable_152 (m_X8_stable_71 f_may f_ranks f_worths fuel_71) (m_X8_stable_82 (m_X8_stable_71 f_may f_ranks f_worths fuel_71) f_may f_ranks f_worths fuel_82) (m_X8_stable_96 (m_X8_stable_71 f_may f_ranks f_worths fuel_71) (m_X8_stable_82 (m_X8_stable_71 f_may f_ranks f_worths fuel_71) f_may f_ranks f_worths fuel_82) f_may f_ranks f_worths fuel_96) f_may f_ranks f_worths v1 v2 v3 v4 v5 v6 v7 f_best f_holds f_refused)) else ((m_X8_stable_153 (m_X8_stable_71 f_may f_ranks f_worths fuel_71) (m_X8_stable_82 (m_X8_stable_71 f_may f_ranks f_worths fuel_71) f_may f_ranks f_worths fuel_82) (m_X8_stable_96 (m_X8_stable_71 f_may f_ranks f_worths fuel_71) (m_X8_stable_82 (m_X8_stable_71 f_may f_ranks f_worths fuel_71) f_may f_ranks f_worths fuel_82) f_may f_ranks f_worths fuel_96) f_may f_ranks f_worths v1 v2 v3 v4 v5 v6 v7 1 f_best f_holds f_refused)))))))))) : Option (Int32 × ((Nat → Int32) × (Nat → Int32) × (Nat → Int32)))) = some res := h
              refine ww_iload B dX8_stable_96 7 rfl ?_
              refine ww_iconst B dX8_stable_98 (v := 5) (by decide) ?_
              refine ww_icmp_ge B 188 dX8_stable_99 (by decide) (fun c_99 => ?_) (fun c_99 => ?_)
              · replace h := og_t c_99 h
                refine ww_iload B dX8_stable_188 6 rfl ?_
                refine ww_if_lt B 264 dX8_stable_190 (by decide) (fun c_190 => ?_) (fun c_190 => ?_)
                · replace h := og_t c_190 h
                  refine ww_lsel (lv' := [(0, .ref a_t), (1, .int v1), (2, .int v2), (3, .int v3), (4, .int v4), (5, .int v5)]) [0, 1, 2, 3, 4, 5] rfl ?_
                  exact cut_264 _ _ _ _ _ _ _ _ h
                · replace h := og_f c_190 h
                  refine ww_iconst B dX8_stable_193 (v := 1) (by decide) ?_
                  refine ww_istore B dX8_stable_194 (lv' := [(4, .int 1), (0, .ref a_t), (1, .int v1), (2, .int v2), (3, .int v3), (5, .int v5), (6, .int v6), (7, .int v7)]) (by decide) rfl ?_
                  refine ww_aload_n B dX8_stable_196 1 rfl ?_
                  refine ww_get (ci := 8) (T := TX8) (C := RX8) (N := 24) B iX8 0 rfl rfl 20 (by decide) (by decide +kernel) rfl rfl dX8_stable_197 ?_
                  refine ww_iload B dX8_stable_200 5 rfl ?_
                  refine ww_dup2 B dX8_stable_202 rfl rfl ?_
                  obtain ⟨i_203, h⟩ := og_i h
                  refine ww_iald B 5 rfl i_203 dX8_stable_203 ?_
                  refine ww_iconst B dX8_stable_204 (v := 1) (by decide) ?_
                  refine ww_iload B dX8_stable_205 6 rfl ?_
                  refine ww_ishl B dX8_stable_207 ?_
                  refine ww_ior B dX8_stable_208 ?_
                  obtain ⟨i_209, h⟩ := og_i h
                  refine ww_iast B 5 rfl i_209 dX8_stable_209 (ws' := [(a_t, .inr (8, [.ref a_may, .ref b_voyage, .ref b_lucky, .ref a_worths, .ref a_ranks, .int x_t_signs, .ref b_pad, .int x_t_day, .int x_t_reason, .ref b_bears, .ref b_due, .ref b_borneBy, .ref b_gone, .ref b_sunk, .ref b_times, .int x_t_asked, .ref b_whoBore, .ref b_gives, .ref a_best, .ref a_holds, .ref a_refused, .ref b_sums, .ref b_image, .ref b_isKept])), (a_best, .inl (cI, 6, .inl f_best)), (a_holds, .inl (cI, 5, .inl f_holds)), (a_may, .inl (cI, 6, .inl f_may)), (a_ranks, .inl (cI, 5, .inl f_ranks)), (a_refused, .inl (cI, 6, .inl (upd f_refused (Int32.toNatClampNeg v5) ((f_refused (Int32.toNatClampNeg v5)) ||| ((1 : Int32) <<< ((v6 : Int32) &&& 31)))))), (a_worths, .inl (cI, 30, .inl f_worths))]) rfl ?_
                  refine ww_aload_n B dX8_stable_210 1 rfl ?_
                  refine ww_get (ci := 8) (T := TX8) (C := RX8) (N := 24) B iX8 0 rfl rfl 19 (by decide) (by decide +kernel) rfl rfl dX8_stable_211 ?_
                  refine ww_iload B dX8_stable_214 6 rfl ?_
                  obtain ⟨i_216, h⟩ := og_i h
                  refine ww_iald B 2 rfl i_216 dX8_stable_216 ?_
                  refine ww_topi (fun v7_217 ev7_217 => ?_)
                  replace h := og_l ev7_217 h
                  refine ww_istore B dX8_stable_217 (lv' := [(7, .int v7_217), (4, .int 1), (0, .ref a_t), (1, .int v1), (2, .int v2), (3, .int v3), (5, .int v5), (6, .int v6)]) (by decide) rfl ?_
                  refine ww_aload_n B dX8_stable_219 2 rfl ?_
                  refine ww_iload B dX8_stable_220 7 rfl ?_
                  refine ww_iload B dX8_stable_222 6 rfl ?_
                  refine ww_iload B dX8_stable_224 0 rfl ?_
                  obtain ⟨q_226, hq_226, h⟩ := og_b h
                  refine ww_ci0 B (k' := 0) (n' := 0) rfl rfl [0, 4] [1, 2, 3, 5, 6] (wr := [(a_best, .inl (cI, 6, .inl f_best)), (a_holds, .inl (cI, 5, .inl f_holds)), (a_may, .inl (cI, 6, .inl f_may)), (a_refused, .inl (cI, 6, .inl (upd f_refused (Int32.toNatClampNeg v5) ((f_refused (Int32.toNatClampNeg v5)) ||| ((1 : Int32) <<< ((v6 : Int32) &&& 31)))))), (a_worths, .inl (cI, 30, .inl f_worths))]) (st := []) rfl rfl (by decide) (rr_V B (c_X8_likesHull l D cI cZ a_t a_ranks a_may b_voyage b_lucky a_worths b_pad b_bears b_due b_borneBy b_gone b_sunk b_times b_whoBore b_gives a_best a_holds a_refused b_sums b_image b_isKept f_ranks x_t_signs x_t_day x_t_reason x_t_asked v6 v5 v7_217 hq_226) gX8_stable_X8_likesHull rfl rfl rfl (N := 3) rfl (by decide +kernel) ⟨Nat.le_of_ble_eq_true rfl, Nat.le_of_ble_eq_true rfl⟩ rfl dX8_stable_226 0 rfl rfl (Nat.le_of_ble_eq_true rfl) ⟨Nat.le_of_ble_eq_true rfl, Nat.le_of_ble_eq_true rfl⟩) (ws' := [(a_best, .inl (cI, 6, .inl f_best)), (a_holds, .inl (cI, 5, .inl f_holds)), (a_may, .inl (cI, 6, .inl f_may)), (a_refused, .inl (cI, 6, .inl (upd f_refused (Int32.toNatClampNeg v5) ((f_refused (Int32.toNatClampNeg v5)) ||| ((1 : Int32) <<< ((v6 : Int32) &&& 31)))))), (a_worths, .inl (cI, 30, .inl f_worths)), (a_t, .inr (8, [.ref a_may, .ref b_voyage, .ref b_lucky, .ref a_worths, .ref a_ranks, .int x_t_signs, .ref b_pad, .int x_t_day, .int x_t_reason, .ref b_bears, .ref b_due, .ref b_borneBy, .ref b_gone, .ref b_sunk, .ref b_times, .int x_t_asked, .ref b_whoBore, .ref b_gives, .ref a_best, .ref a_holds, .ref a_refused, .ref b_sums, .ref b_image, .ref b_isKept])), (a_ranks, .inl (cI, 5, .inl f_ranks))]) rfl ?_
                  refine ww_if_eq B 264 dX8_stable_229 (by decide) (fun c_229 => ?_) (fun c_229 => ?_)
                  · replace h := og_t c_229 h
                    refine ww_sub (ws' := [(a_t, .inr (8, [.ref a_may, .ref b_voyage, .ref b_lucky, .ref a_worths, .ref a_ranks, .int x_t_signs, .ref b_pad, .int x_t_day, .int x_t_reason, .ref b_bears, .ref b_due, .ref b_borneBy, .ref b_gone, .ref b_sunk, .ref b_times, .int x_t_asked, .ref b_whoBore, .ref b_gives, .ref a_best, .ref a_holds, .ref a_refused, .ref b_sums, .ref b_image, .ref b_isKept])), (a_best, .inl (cI, 6, .inl f_best)), (a_holds, .inl (cI, 5, .inl f_holds)), (a_may, .inl (cI, 6, .inl f_may)), (a_ranks, .inl (cI, 5, .inl f_ranks)), (a_refused, .inl (cI, 6, .inl (upd f_refused (Int32.toNatClampNeg v5) ((f_refused (Int32.toNatClampNeg v5)) ||| ((1 : Int32) <<< ((v6 : Int32) &&& 31)))))), (a_worths, .inl (cI, 30, .inl f_worths))]) [5, 0, 1, 2, 6, 3, 4] rfl (by decide) ?_
                    refine ww_lsel (lv' := [(0, .ref a_t), (1, .int v1), (2, .int v2), (3, .int v3), (4, .int 1), (5, .int v5)]) [2, 3, 4, 5, 1, 6] rfl ?_
                    exact cut_264 _ _ _ _ _ _ _ _ h
                  · replace h := og_f c_229 h
                    refine ww_iload B dX8_stable_232 0 rfl ?_
                    refine ww_if_lt B 246 dX8_stable_234 (by decide) (fun c_234 => ?_) (fun c_234 => ?_)
                    · replace h := og_t c_234 h
                      refine ww_sub (ws' := [(a_t, .inr (8, [.ref a_may, .ref b_voyage, .ref b_lucky, .ref a_worths, .ref a_ranks, .int x_t_signs, .ref b_pad, .int x_t_day, .int x_t_reason, .ref b_bears, .ref b_due, .ref b_borneBy, .ref b_gone, .ref b_sunk, .ref b_times, .int x_t_asked, .ref b_whoBore, .ref b_gives, .ref a_best, .ref a_holds, .ref a_refused, .ref b_sums, .ref b_image, .ref b_isKept])), (a_best, .inl (cI, 6, .inl f_best)), (a_holds, .inl (cI, 5, .inl f_holds)), (a_may, .inl (cI, 6, .inl f_may)), (a_ranks, .inl (cI, 5, .inl f_ranks)), (a_refused, .inl (cI, 6, .inl (upd f_refused (Int32.toNatClampNeg v5) ((f_refused (Int32.toNatClampNeg v5)) ||| ((1 : Int32) <<< ((v6 : Int32) &&& 31)))))), (a_worths, .inl (cI, 30, .inl f_worths))]) [5, 0, 1, 2, 6, 3, 4] rfl (by decide) ?_
                      refine ww_lsel (lv' := [(0, .ref a_t), (1, .int v1), (2, .int v2), (3, .int v3), (4, .int 1), (5, .int v5), (6, .int v6)]) [2, 3, 4, 5, 1, 6, 7] rfl ?_
                      exact cut_246 _ _ _ _ _ _ _ _ _ h
                    · replace h := og_f c_234 h
                      refine ww_aload_n B dX8_stable_237 2 rfl ?_
                      refine ww_get (ci := 8) (T := TX8) (C := RX8) (N := 24) B iX8 5 rfl rfl 18 (by decide) (by decide +kernel) rfl rfl dX8_stable_238 ?_
                      refine ww_iload B dX8_stable_241 0 rfl ?_
                      refine ww_bipush B dX8_stable_243 (v := (-6)) (by decide) ?_
                      obtain ⟨i_245, h⟩ := og_i h
                      refine ww_iast B 0 rfl i_245 dX8_stable_245 (ws' := [(a_best, .inl (cI, 6, .inl (upd f_best (Int32.toNatClampNeg v7_217) (-6)))), (a_holds, .inl (cI, 5, .inl f_holds)), (a_may, .inl (cI, 6, .inl f_may)), (a_refused, .inl (cI, 6, .inl (upd f_refused (Int32.toNatClampNeg v5) ((f_refused (Int32.toNatClampNeg v5)) ||| ((1 : Int32) <<< ((v6 : Int32) &&& 31)))))), (a_worths, .inl (cI, 30, .inl f_worths)), (a_t, .inr (8, [.ref a_may, .ref b_voyage, .ref b_lucky, .ref a_worths, .ref a_ranks, .int x_t_signs, .ref b_pad, .int x_t_day, .int x_t_reason, .ref b_bears, .ref b_due, .ref b_borneBy, .ref b_gone, .ref b_sunk, .ref b_times, .int x_t_asked, .ref b_whoBore, .ref b_gives, .ref a_best, .ref a_holds, .ref a_refused, .ref b_sums, .ref b_image, .ref b_isKept])), (a_ranks, .inl (cI, 5, .inl f_ranks))]) rfl ?_
                      refine ww_sub (ws' := [(a_t, .inr (8, [.ref a_may, .ref b_voyage, .ref b_lucky, .ref a_worths, .ref a_ranks, .int x_t_signs, .ref b_pad, .int x_t_day, .int x_t_reason, .ref b_bears, .ref b_due, .ref b_borneBy, .ref b_gone, .ref b_sunk, .ref b_times, .int x_t_asked, .ref b_whoBore, .ref b_gives, .ref a_best, .ref a_holds, .ref a_refused, .ref b_sums, .ref b_image, .ref b_isKept])), (a_best, .inl (cI, 6, .inl (upd f_best (Int32.toNatClampNeg v7_217) (-6)))), (a_holds, .inl (cI, 5, .inl f_holds)), (a_may, .inl (cI, 6, .inl f_may)), (a_ranks, .inl (cI, 5, .inl f_ranks)), (a_refused, .inl (cI, 6, .inl (upd f_refused (Int32.toNatClampNeg v5) ((f_refused (Int32.toNatClampNeg v5)) ||| ((1 : Int32) <<< ((v6 : Int32) &&& 31)))))), (a_worths, .inl (cI, 30, .inl f_worths))]) [5, 0, 1, 2, 6, 3, 4] rfl (by decide) ?_
                      refine ww_lsel (lv' := [(0, .ref a_t), (1, .int v1), (2, .int v2), (3, .int v3), (4, .int 1), (5, .int v5), (6, .int v6)]) [2, 3, 4, 5, 1, 6, 7] rfl ?_
                      exact cut_246 _ _ _ _ _ _ _ _ _ h
              · replace h := og_f c_99 h
                refine ww_iload_n B dX8_stable_102 1 rfl ?_
                refine ww_iload B dX8_stable_103 5 rfl ?_
                obtain ⟨q_105, hq_105, h⟩ := og_b h
                refine ww_ci0 B (k' := 0) (n' := 0) rfl rfl [] [0, 1, 2, 3, 4, 5, 6] (wr := [(a_t, .inr (8, [.ref a_may, .ref b_voyage, .ref b_lucky, .ref a_worths, .ref a_ranks, .int x_t_signs, .ref b_pad, .int x_t_day, .int x_t_reason, .ref b_bears, .ref b_due, .ref b_borneBy, .ref b_gone, .ref b_sunk, .ref b_times, .int x_t_asked, .ref b_whoBore, .ref b_gives, .ref a_best, .ref a_holds, .ref a_refused, .ref b_sums, .ref b_image, .ref b_isKept])), (a_best, .inl (cI, 6, .inl f_best)), (a_holds, .inl (cI, 5, .inl f_holds)), (a_may, .inl (cI, 6, .inl f_may)), (a_ranks, .inl (cI, 5, .inl f_ranks)), (a_refused, .inl (cI, 6, .inl f_refused)), (a_worths, .inl (cI, 30, .inl f_worths))]) (st := []) rfl rfl (by decide) (rr_S B (c_X8_has l D cI cZ v1 v5 hq_105) gX8_stable_X8_has rfl rfl rfl (N := 2) rfl (by decide +kernel) ⟨Nat.le_of_ble_eq_true rfl, Nat.le_of_ble_eq_true rfl⟩ rfl dX8_stable_105 (Nat.le_of_ble_eq_true rfl) ⟨Nat.le_of_ble_eq_true rfl, Nat.le_of_ble_eq_true rfl⟩) (ws' := [(a_t, .inr (8, [.ref a_may, .ref b_voyage, .ref b_lucky, .ref a_worths, .ref a_ranks, .int x_t_signs, .ref b_pad, .int x_t_day, .int x_t_reason, .ref b_bears, .ref b_due, .ref b_borneBy, .ref b_gone, .ref b_sunk, .ref b_times, .int x_t_asked, .ref b_whoBore, .ref b_gives, .ref a_best, .ref a_holds, .ref a_refused, .ref b_sums, .ref b_image, .ref b_isKept])), (a_best, .inl (cI, 6, .inl f_best)), (a_holds, .inl (cI, 5, .inl f_holds)), (a_may, .inl (cI, 6, .inl f_may)), (a_ranks, .inl (cI, 5, .inl f_ranks)), (a_refused, .inl (cI, 6, .inl f_refused)), (a_worths, .inl (cI, 30, .inl f_worths))]) rfl ?_
                refine ww_if_eq B 152 dX8_stable_108 (by decide) (fun c_108 => ?_) (fun c_108 => ?_)
                · replace h := og_t c_108 h
                  exact cut_152 _ _ _ _ _ _ _ _ _ _ h
                · replace h := og_f c_108 h
                  refine ww_aload_n B dX8_stable_111 0 rfl ?_
                  refine ww_get (ci := 8) (T := TX8) (C := RX8) (N := 24) B iX8 0 rfl rfl 18 (by decide) (by decide +kernel) rfl rfl dX8_stable_112 ?_
                  refine ww_iload B dX8_stable_115 5 rfl ?_
                  obtain ⟨i_117, h⟩ := og_i h
                  refine ww_iald B 1 rfl i_117 dX8_stable_117 ?_
                  refine ww_if_ge B 152 dX8_stable_118 (by decide) (fun c_118 => ?_) (fun c_118 => ?_)
                  · replace h := og_t c_118 h
                    exact cut_152 _ _ _ _ _ _ _ _ _ _ h
                  · replace h := og_f c_118 h
                    refine ww_iload_n B dX8_stable_121 2 rfl ?_
                    refine ww_aload_n B dX8_stable_122 0 rfl ?_
                    refine ww_get (ci := 8) (T := TX8) (C := RX8) (N := 24) B iX8 0 rfl rfl 0 (by decide) (by decide +kernel) rfl rfl dX8_stable_123 ?_
                    refine ww_iload B dX8_stable_126 5 rfl ?_
                    obtain ⟨i_128, h⟩ := og_i h
                    refine ww_iald B 3 rfl i_128 dX8_stable_128 ?_
                    refine ww_iand B dX8_stable_129 ?_
                    refine ww_aload_n B dX8_stable_130 0 rfl ?_
                    refine ww_get (ci := 8) (T := TX8) (C := RX8) (N := 24) B iX8 0 rfl rfl 20 (by decide) (by decide +kernel) rfl rfl dX8_stable_131 ?_
                    refine ww_iload B dX8_stable_134 5 rfl ?_
                    obtain ⟨i_136, h⟩ := og_i h
                    refine ww_iald B 5 rfl i_136 dX8_stable_136 ?_
                    refine ww_iconst B dX8_stable_137 (v := (-1)) (by decide) ?_
                    refine ww_ixor B dX8_stable_138 ?_
                    refine ww_iand B dX8_stable_139 ?_
                    refine ww_iload B dX8_stable_140 7 rfl ?_
                    obtain ⟨q_142, hq_142, h⟩ := og_b h
                    refine ww_ci0 B (k' := 0) (n' := 0) rfl rfl [] [0, 1, 2, 3, 4, 5, 6] (wr := [(a_t, .inr (8, [.ref a_may, .ref b_voyage, .ref b_lucky, .ref a_worths, .ref a_ranks, .int x_t_signs, .ref b_pad, .int x_t_day, .int x_t_reason, .ref b_bears, .ref b_due, .ref b_borneBy, .ref b_gone, .ref b_sunk, .ref b_times, .int x_t_asked, .ref b_whoBore, .ref b_gives, .ref a_best, .ref a_holds, .ref a_refused, .ref b_sums, .ref b_image, .ref b_isKept])), (a_best, .inl (cI, 6, .inl f_best)), (a_holds, .inl (cI, 5, .inl f_holds)), (a_may, .inl (cI, 6, .inl f_may)), (a_ranks, .inl (cI, 5, .inl f_ranks)), (a_refused, .inl (cI, 6, .inl f_refused)), (a_worths, .inl (cI, 30, .inl f_worths))]) (st := []) rfl rfl (by decide) (rr_S B (c_X8_has l D cI cZ ((v2 &&& (f_may (Int32.toNatClampNeg v5))) &&& (((f_refused (Int32.toNatClampNeg v5)) : Int32) ^^^ ((-1) : Int32))) v7 hq_142) gX8_stable_X8_has rfl rfl rfl (N := 2) rfl (by decide +kernel) ⟨Nat.le_of_ble_eq_true rfl, Nat.le_of_ble_eq_true rfl⟩ rfl dX8_stable_142 (Nat.le_of_ble_eq_true rfl) ⟨Nat.le_of_ble_eq_true rfl, Nat.le_of_ble_eq_true rfl⟩) (ws' := [(a_t, .inr (8, [.ref a_may, .ref b_voyage, .ref b_lucky, .ref a_worths, .ref a_ranks, .int x_t_signs, .ref b_pad, .int x_t_day, .int x_t_reason, .ref b_bears, .ref b_due, .ref b_borneBy, .ref b_gone, .ref b_sunk, .ref b_times, .int x_t_asked, .ref b_whoBore, .ref b_gives, .ref a_best, .ref a_holds, .ref a_refused, .ref b_sums, .ref b_image, .ref b_isKept])), (a_best, .inl (cI, 6, .inl f_best)), (a_holds, .inl (cI, 5, .inl f_holds)), (a_may, .inl (cI, 6, .inl f_may)), (a_ranks, .inl (cI, 5, .inl f_ranks)), (a_refused, .inl (cI, 6, .inl f_refused)), (a_worths, .inl (cI, 30, .inl f_worths))]) rfl ?_
                    refine ww_if_eq B 152 dX8_stable_145 (by decide) (fun c_145 => ?_) (fun c_145 => ?_)
                    · replace h := og_t c_145 h
                      exact cut_152 _ _ _ _ _ _ _ _ _ _ h
                    · replace h := og_f c_145 h
                      refine ww_iconst B dX8_stable_148 (v := 1) (by decide) ?_
                      refine ww_goto B 153 dX8_stable_149 (by decide) ?_
                      exact cut_153 _ _ _ _ _ _ _ _ _ _ _ h
          intro v1 v2 v3 v4 v5 f_best f_holds f_refused h
          replace h : (if 6 ≤ v5 then (((m_X8_stable_71 f_may f_ranks f_worths fuel_71) v1 v2 v3 v4 f_best f_holds f_refused)) else ((m_X8_stable_96 (m_X8_stable_71 f_may f_ranks f_worths fuel_71) (m_X8_stable_82 (m_X8_stable_71 f_may f_ranks f_worths fuel_71) f_may f_ranks f_worths fuel_82) f_may f_ranks f_worths 1000000 v1 v2 v3 v4 v5 (-6) 0 f_best f_holds f_refused)) : Option (Int32 × ((Nat → Int32) × (Nat → Int32) × (Nat → Int32)))) = some res := h
          refine ww_iload B dX8_stable_82 5 rfl ?_
          refine ww_bipush B dX8_stable_84 (v := 6) (by decide) ?_
          refine ww_icmp_ge B 270 dX8_stable_86 (by decide) (fun c_86 => ?_) (fun c_86 => ?_)
          · replace h := og_t c_86 h
            refine ww_goto B 71 dX8_stable_270 (by decide) ?_
            refine ww_lsel (lv' := [(0, .ref a_t), (1, .int v1), (2, .int v2), (3, .int v3), (4, .int v4)]) [0, 1, 2, 3, 4] rfl ?_
            exact ih_71 _ _ _ _ _ _ _ h
          · replace h := og_f c_86 h
            refine ww_bipush B dX8_stable_89 (v := (-6)) (by decide) ?_
            refine ww_istore B dX8_stable_91 (lv' := [(6, .int (-6)), (0, .ref a_t), (1, .int v1), (2, .int v2), (3, .int v3), (4, .int v4), (5, .int v5)]) (by decide) rfl ?_
            refine ww_iconst B dX8_stable_93 (v := 0) (by decide) ?_
            refine ww_istore B dX8_stable_94 (lv' := [(7, .int 0), (6, .int (-6)), (0, .ref a_t), (1, .int v1), (2, .int v2), (3, .int v3), (4, .int v4), (5, .int v5)]) (by decide) rfl ?_
            refine ww_lsel (lv' := [(0, .ref a_t), (1, .int v1), (2, .int v2), (3, .int v3), (4, .int v4), (5, .int v5), (6, .int (-6)), (7, .int 0)]) [2, 3, 4, 5, 6, 7, 1, 0] rfl ?_
            exact cut_96 _ _ _ _ _ _ _ _ _ _ _ h
      intro v1 v2 v3 v4 f_best f_holds f_refused h
      replace h : (if v4 = 0 then (ogb (m_X8_toldOf f_best f_worths v3) (fun q_275 => some (q_275, (f_best, f_holds, f_refused)))) else ((m_X8_stable_82 (m_X8_stable_71 f_may f_ranks f_worths fuel_71) f_may f_ranks f_worths 1000000 v1 v2 v3 0 0 f_best f_holds f_refused)) : Option (Int32 × ((Nat → Int32) × (Nat → Int32) × (Nat → Int32)))) = some res := h
      refine ww_iload B dX8_stable_71 4 rfl ?_
      refine ww_if_eq B 273 dX8_stable_73 (by decide) (fun c_73 => ?_) (fun c_73 => ?_)
      · replace h := og_t c_73 h
        refine ww_aload_n B dX8_stable_273 0 rfl ?_
        refine ww_iload_n B dX8_stable_274 3 rfl ?_
        obtain ⟨q_275, hq_275, h⟩ := og_b h
        refine ww_ci0 B (k' := 0) (n' := 0) rfl rfl [0, 1, 6] [2, 3, 4, 5] (wr := [(a_holds, .inl (cI, 5, .inl f_holds)), (a_may, .inl (cI, 6, .inl f_may)), (a_ranks, .inl (cI, 5, .inl f_ranks)), (a_refused, .inl (cI, 6, .inl f_refused))]) (st := []) rfl rfl (by decide) (rr_V B (c_X8_toldOf l D cI cZ a_t a_best a_worths a_may b_voyage b_lucky a_ranks b_pad b_bears b_due b_borneBy b_gone b_sunk b_times b_whoBore b_gives a_holds a_refused b_sums b_image b_isKept f_best f_worths x_t_signs x_t_day x_t_reason x_t_asked v3 hq_275) gX8_stable_X8_toldOf rfl rfl rfl (N := 1) rfl (by decide +kernel) ⟨Nat.le_of_ble_eq_true rfl, Nat.le_of_ble_eq_true rfl⟩ rfl dX8_stable_275 0 rfl rfl (Nat.le_of_ble_eq_true rfl) ⟨Nat.le_of_ble_eq_true rfl, Nat.le_of_ble_eq_true rfl⟩) (ws' := [(a_holds, .inl (cI, 5, .inl f_holds)), (a_may, .inl (cI, 6, .inl f_may)), (a_ranks, .inl (cI, 5, .inl f_ranks)), (a_refused, .inl (cI, 6, .inl f_refused)), (a_t, .inr (8, [.ref a_may, .ref b_voyage, .ref b_lucky, .ref a_worths, .ref a_ranks, .int x_t_signs, .ref b_pad, .int x_t_day, .int x_t_reason, .ref b_bears, .ref b_due, .ref b_borneBy, .ref b_gone, .ref b_sunk, .ref b_times, .int x_t_asked, .ref b_whoBore, .ref b_gives, .ref a_best, .ref a_holds, .ref a_refused, .ref b_sums, .ref b_image, .ref b_isKept])), (a_best, .inl (cI, 6, .inl f_best)), (a_worths, .inl (cI, 30, .inl f_worths))]) rfl ?_
        exact ww_iret B hA hQ hr dX8_stable_278 (f_best, f_holds, f_refused) [4, 5, 0, 1, 2, 3, 6] rfl (by decide) (og_p h)
      · replace h := og_f c_73 h
        refine ww_iconst B dX8_stable_76 (v := 0) (by decide) ?_
        refine ww_istore B dX8_stable_77 (lv' := [(4, .int 0), (0, .ref a_t), (1, .int v1), (2, .int v2), (3, .int v3)]) (by decide) rfl ?_
        refine ww_iconst B dX8_stable_79 (v := 0) (by decide) ?_
        refine ww_istore B dX8_stable_80 (lv' := [(5, .int 0), (4, .int 0), (0, .ref a_t), (1, .int v1), (2, .int v2), (3, .int v3)]) (by decide) rfl ?_
        refine ww_lsel (lv' := [(0, .ref a_t), (1, .int v1), (2, .int v2), (3, .int v3), (4, .int 0), (5, .int 0)]) [2, 3, 4, 5, 1, 0] rfl ?_
        exact cut_82 _ _ _ _ _ _ _ _ _ h
  have cut_47 : ∀ (fuel : Nat) (v1 : Int32) (v2 : Int32) (v3 : Int32) (v4 : Int32) (f_best : (Nat → Int32)) (f_holds : (Nat → Int32)) (f_refused : (Nat → Int32)), m_X8_stable_47 f_may f_ranks f_worths fuel v1 v2 v3 v4 f_best f_holds f_refused = some res → WW p l e (headSpec wsX8_stable ({ frames := 3, cells := 0, slots := 0, locals := 63 } : Room)).room s m args below meth c D A 9 0 0 Q [(a_t, .inr (8, [.ref a_may, .ref b_voyage, .ref b_lucky, .ref a_worths, .ref a_ranks, .int x_t_signs, .ref b_pad, .int x_t_day, .int x_t_reason, .ref b_bears, .ref b_due, .ref b_borneBy, .ref b_gone, .ref b_sunk, .ref b_times, .int x_t_asked, .ref b_whoBore, .ref b_gives, .ref a_best, .ref a_holds, .ref a_refused, .ref b_sums, .ref b_image, .ref b_isKept])), (a_best, .inl (cI, 6, .inl f_best)), (a_holds, .inl (cI, 5, .inl f_holds)), (a_may, .inl (cI, 6, .inl f_may)), (a_ranks, .inl (cI, 5, .inl f_ranks)), (a_refused, .inl (cI, 6, .inl f_refused)), (a_worths, .inl (cI, 30, .inl f_worths))] [(0, .ref a_t), (1, .int v1), (2, .int v2), (3, .int v3), (4, .int v4)] [] 47 := by
    intro fuel_47
    induction fuel_47 with
    | zero => intro v1 v2 v3 v4 f_best f_holds f_refused h; exact og_0 h
    | succ fuel_47 ih_47 =>
      intro v1 v2 v3 v4 f_best f_holds f_refused h
      replace h : (if 5 ≤ v4 then ((m_X8_stable_71 f_may f_ranks f_worths 1000000 v1 v2 v3 1 f_best f_holds f_refused)) else (ogi v4 5 (ogl (v4 + 1) (fun (v4_62 : Int32) => ((m_X8_stable_47 f_may f_ranks f_worths fuel_47) v1 v2 v3 v4_62 f_best (upd f_holds (Int32.toNatClampNeg v4) (-6)) f_refused)))) : Option (Int32 × ((Nat → Int32) × (Nat → Int32) × (Nat → Int32)))) = some res := h
      refine ww_iload B dX8_stable_47 4 rfl ?_
      refine ww_iconst B dX8_stable_49 (v := 5) (by decide) ?_
      refine ww_icmp_ge B 68 dX8_stable_50 (by decide) (fun c_50 => ?_) (fun c_50 => ?_)
      · replace h := og_t c_50 h
        refine ww_iconst B dX8_stable_68 (v := 1) (by decide) ?_
        refine ww_istore B dX8_stable_69 (lv' := [(4, .int 1), (0, .ref a_t), (1, .int v1), (2, .int v2), (3, .int v3)]) (by decide) rfl ?_
        refine ww_lsel (lv' := [(0, .ref a_t), (1, .int v1), (2, .int v2), (3, .int v3), (4, .int 1)]) [1, 2, 3, 4, 0] rfl ?_
        exact cut_71 _ _ _ _ _ _ _ _ h
      · replace h := og_f c_50 h
        refine ww_aload_n B dX8_stable_53 0 rfl ?_
        refine ww_get (ci := 8) (T := TX8) (C := RX8) (N := 24) B iX8 0 rfl rfl 19 (by decide) (by decide +kernel) rfl rfl dX8_stable_54 ?_
        refine ww_iload B dX8_stable_57 4 rfl ?_
        refine ww_bipush B dX8_stable_59 (v := (-6)) (by decide) ?_
        obtain ⟨i_61, h⟩ := og_i h
        refine ww_iast B 2 rfl i_61 dX8_stable_61 (ws' := [(a_t, .inr (8, [.ref a_may, .ref b_voyage, .ref b_lucky, .ref a_worths, .ref a_ranks, .int x_t_signs, .ref b_pad, .int x_t_day, .int x_t_reason, .ref b_bears, .ref b_due, .ref b_borneBy, .ref b_gone, .ref b_sunk, .ref b_times, .int x_t_asked, .ref b_whoBore, .ref b_gives, .ref a_best, .ref a_holds, .ref a_refused, .ref b_sums, .ref b_image, .ref b_isKept])), (a_best, .inl (cI, 6, .inl f_best)), (a_holds, .inl (cI, 5, .inl (upd f_holds (Int32.toNatClampNeg v4) (-6)))), (a_may, .inl (cI, 6, .inl f_may)), (a_ranks, .inl (cI, 5, .inl f_ranks)), (a_refused, .inl (cI, 6, .inl f_refused)), (a_worths, .inl (cI, 30, .inl f_worths))]) rfl ?_
        obtain ⟨v4_62, ev4_62⟩ : ∃ y : Int32, y = (v4 + 1) := ⟨_, rfl⟩
        refine ww_iinc B dX8_stable_62 4 rfl (v := v4_62) (by rw [ev4_62]; rfl) (by decide) (lv' := [(4, .int v4_62), (0, .ref a_t), (1, .int v1), (2, .int v2), (3, .int v3)]) rfl ?_
        replace h := og_l ev4_62 h
        refine ww_goto B 47 dX8_stable_65 (by decide) ?_
        refine ww_lsel (lv' := [(0, .ref a_t), (1, .int v1), (2, .int v2), (3, .int v3), (4, .int v4_62)]) [1, 2, 3, 4, 0] rfl ?_
        exact ih_47 _ _ _ _ _ _ _ h
  have cut_14 : ∀ (fuel : Nat) (v1 : Int32) (v2 : Int32) (v3 : Int32) (v4 : Int32) (f_best : (Nat → Int32)) (f_holds : (Nat → Int32)) (f_refused : (Nat → Int32)), m_X8_stable_14 f_may f_ranks f_worths fuel v1 v2 v3 v4 f_best f_holds f_refused = some res → WW p l e (headSpec wsX8_stable ({ frames := 3, cells := 0, slots := 0, locals := 63 } : Room)).room s m args below meth c D A 9 0 0 Q [(a_t, .inr (8, [.ref a_may, .ref b_voyage, .ref b_lucky, .ref a_worths, .ref a_ranks, .int x_t_signs, .ref b_pad, .int x_t_day, .int x_t_reason, .ref b_bears, .ref b_due, .ref b_borneBy, .ref b_gone, .ref b_sunk, .ref b_times, .int x_t_asked, .ref b_whoBore, .ref b_gives, .ref a_best, .ref a_holds, .ref a_refused, .ref b_sums, .ref b_image, .ref b_isKept])), (a_best, .inl (cI, 6, .inl f_best)), (a_holds, .inl (cI, 5, .inl f_holds)), (a_may, .inl (cI, 6, .inl f_may)), (a_ranks, .inl (cI, 5, .inl f_ranks)), (a_refused, .inl (cI, 6, .inl f_refused)), (a_worths, .inl (cI, 30, .inl f_worths))] [(0, .ref a_t), (1, .int v1), (2, .int v2), (3, .int v3), (4, .int v4)] [] 14 := by
    intro fuel_14
    induction fuel_14 with
    | zero => intro v1 v2 v3 v4 f_best f_holds f_refused h; exact og_0 h
    | succ fuel_14 ih_14 =>
      intro v1 v2 v3 v4 f_best f_holds f_refused h
      replace h : (if 6 ≤ v4 then ((m_X8_stable_47 f_may f_ranks f_worths 1000000 v1 v2 v3 0 f_best f_holds f_refused)) else (ogi v4 6 (ogi v4 6 (ogl (v4 + 1) (fun (v4_38 : Int32) => ((m_X8_stable_14 f_may f_ranks f_worths fuel_14) v1 v2 v3 v4_38 (upd f_best (Int32.toNatClampNeg v4) (-6)) f_holds (upd f_refused (Int32.toNatClampNeg v4) 0)))))) : Option (Int32 × ((Nat → Int32) × (Nat → Int32) × (Nat → Int32)))) = some res := h
      refine ww_iload B dX8_stable_14 4 rfl ?_
      refine ww_bipush B dX8_stable_16 (v := 6) (by decide) ?_
      refine ww_icmp_ge B 44 dX8_stable_18 (by decide) (fun c_18 => ?_) (fun c_18 => ?_)
      · replace h := og_t c_18 h
        refine ww_iconst B dX8_stable_44 (v := 0) (by decide) ?_
        refine ww_istore B dX8_stable_45 (lv' := [(4, .int 0), (0, .ref a_t), (1, .int v1), (2, .int v2), (3, .int v3)]) (by decide) rfl ?_
        refine ww_lsel (lv' := [(0, .ref a_t), (1, .int v1), (2, .int v2), (3, .int v3), (4, .int 0)]) [1, 2, 3, 4, 0] rfl ?_
        exact cut_47 _ _ _ _ _ _ _ _ h
      · replace h := og_f c_18 h
        refine ww_aload_n B dX8_stable_21 0 rfl ?_
        refine ww_get (ci := 8) (T := TX8) (C := RX8) (N := 24) B iX8 0 rfl rfl 18 (by decide) (by decide +kernel) rfl rfl dX8_stable_22 ?_
        refine ww_iload B dX8_stable_25 4 rfl ?_
        refine ww_bipush B dX8_stable_27 (v := (-6)) (by decide) ?_
        obtain ⟨i_29, h⟩ := og_i h
        refine ww_iast B 1 rfl i_29 dX8_stable_29 (ws' := [(a_t, .inr (8, [.ref a_may, .ref b_voyage, .ref b_lucky, .ref a_worths, .ref a_ranks, .int x_t_signs, .ref b_pad, .int x_t_day, .int x_t_reason, .ref b_bears, .ref b_due, .ref b_borneBy, .ref b_gone, .ref b_sunk, .ref b_times, .int x_t_asked, .ref b_whoBore, .ref b_gives, .ref a_best, .ref a_holds, .ref a_refused, .ref b_sums, .ref b_image, .ref b_isKept])), (a_best, .inl (cI, 6, .inl (upd f_best (Int32.toNatClampNeg v4) (-6)))), (a_holds, .inl (cI, 5, .inl f_holds)), (a_may, .inl (cI, 6, .inl f_may)), (a_ranks, .inl (cI, 5, .inl f_ranks)), (a_refused, .inl (cI, 6, .inl f_refused)), (a_worths, .inl (cI, 30, .inl f_worths))]) rfl ?_
        refine ww_aload_n B dX8_stable_30 0 rfl ?_
        refine ww_get (ci := 8) (T := TX8) (C := RX8) (N := 24) B iX8 0 rfl rfl 20 (by decide) (by decide +kernel) rfl rfl dX8_stable_31 ?_
        refine ww_iload B dX8_stable_34 4 rfl ?_
        refine ww_iconst B dX8_stable_36 (v := 0) (by decide) ?_
        obtain ⟨i_37, h⟩ := og_i h
        refine ww_iast B 5 rfl i_37 dX8_stable_37 (ws' := [(a_t, .inr (8, [.ref a_may, .ref b_voyage, .ref b_lucky, .ref a_worths, .ref a_ranks, .int x_t_signs, .ref b_pad, .int x_t_day, .int x_t_reason, .ref b_bears, .ref b_due, .ref b_borneBy, .ref b_gone, .ref b_sunk, .ref b_times, .int x_t_asked, .ref b_whoBore, .ref b_gives, .ref a_best, .ref a_holds, .ref a_refused, .ref b_sums, .ref b_image, .ref b_isKept])), (a_best, .inl (cI, 6, .inl (upd f_best (Int32.toNatClampNeg v4) (-6)))), (a_holds, .inl (cI, 5, .inl f_holds)), (a_may, .inl (cI, 6, .inl f_may)), (a_ranks, .inl (cI, 5, .inl f_ranks)), (a_refused, .inl (cI, 6, .inl (upd f_refused (Int32.toNatClampNeg v4) 0))), (a_worths, .inl (cI, 30, .inl f_worths))]) rfl ?_
        obtain ⟨v4_38, ev4_38⟩ : ∃ y : Int32, y = (v4 + 1) := ⟨_, rfl⟩
        refine ww_iinc B dX8_stable_38 4 rfl (v := v4_38) (by rw [ev4_38]; rfl) (by decide) (lv' := [(4, .int v4_38), (0, .ref a_t), (1, .int v1), (2, .int v2), (3, .int v3)]) rfl ?_
        replace h := og_l ev4_38 h
        refine ww_goto B 14 dX8_stable_41 (by decide) ?_
        refine ww_lsel (lv' := [(0, .ref a_t), (1, .int v1), (2, .int v2), (3, .int v3), (4, .int v4_38)]) [1, 2, 3, 4, 0] rfl ?_
        exact ih_14 _ _ _ _ _ _ _ h
  refine ww_iload_n B dX8_stable_0 1 rfl ?_
  refine ww_iload_n B dX8_stable_1 2 rfl ?_
  obtain ⟨q_2, hq_2, h⟩ := og_b h
  refine ww_ci0 B (k' := 0) (n' := 0) rfl rfl [] [0, 1, 2, 3, 4, 5, 6] (wr := [(a_t, .inr (8, [.ref a_may, .ref b_voyage, .ref b_lucky, .ref a_worths, .ref a_ranks, .int x_t_signs, .ref b_pad, .int x_t_day, .int x_t_reason, .ref b_bears, .ref b_due, .ref b_borneBy, .ref b_gone, .ref b_sunk, .ref b_times, .int x_t_asked, .ref b_whoBore, .ref b_gives, .ref a_best, .ref a_holds, .ref a_refused, .ref b_sums, .ref b_image, .ref b_isKept])), (a_best, .inl (cI, 6, .inl f_best)), (a_holds, .inl (cI, 5, .inl f_holds)), (a_may, .inl (cI, 6, .inl f_may)), (a_ranks, .inl (cI, 5, .inl f_ranks)), (a_refused, .inl (cI, 6, .inl f_refused)), (a_worths, .inl (cI, 30, .inl f_worths))]) (st := []) rfl rfl (by decide) (rr_S B (c_X8_areSets l D cI cZ v1 v2 hq_2) gX8_stable_X8_areSets rfl rfl rfl (N := 2) rfl (by decide +kernel) ⟨Nat.le_of_ble_eq_true rfl, Nat.le_of_ble_eq_true rfl⟩ rfl dX8_stable_2 (Nat.le_of_ble_eq_true rfl) ⟨Nat.le_of_ble_eq_true rfl, Nat.le_of_ble_eq_true rfl⟩) (ws' := [(a_t, .inr (8, [.ref a_may, .ref b_voyage, .ref b_lucky, .ref a_worths, .ref a_ranks, .int x_t_signs, .ref b_pad, .int x_t_day, .int x_t_reason, .ref b_bears, .ref b_due, .ref b_borneBy, .ref b_gone, .ref b_sunk, .ref b_times, .int x_t_asked, .ref b_whoBore, .ref b_gives, .ref a_best, .ref a_holds, .ref a_refused, .ref b_sums, .ref b_image, .ref b_isKept])), (a_best, .inl (cI, 6, .inl f_best)), (a_holds, .inl (cI, 5, .inl f_holds)), (a_may, .inl (cI, 6, .inl f_may)), (a_ranks, .inl (cI, 5, .inl f_ranks)), (a_refused, .inl (cI, 6, .inl f_refused)), (a_worths, .inl (cI, 30, .inl f_worths))]) rfl ?_
  refine ww_if_ne B 11 dX8_stable_5 (by decide) (fun c_5 => ?_) (fun c_5 => ?_)
  · replace h := og_f c_5 h
    refine ww_iconst B dX8_stable_11 (v := 0) (by decide) ?_
    refine ww_istore B dX8_stable_12 (lv' := [(4, .int 0), (0, .ref a_t), (1, .int v1), (2, .int v2), (3, .int v3)]) (by decide) rfl ?_
    refine ww_lsel (lv' := [(0, .ref a_t), (1, .int v1), (2, .int v2), (3, .int v3), (4, .int 0)]) [1, 2, 3, 4, 0] rfl ?_
    exact cut_14 _ _ _ _ _ _ _ _ h
  · replace h := og_t c_5 h
    refine ww_bipush B dX8_stable_8 (v := (-2)) (by decide) ?_
    exact ww_iret B hA hQ hr dX8_stable_10 (f_best, f_holds, f_refused) [0, 1, 2, 3, 4, 5, 6] rfl (by decide) (og_p h)
noncomputable def m_X8_told_85 (f_lucky : (Nat → Int32)) (f_may : (Nat → Int32)) (f_ranks : (Nat → Int32)) (f_voyage : (Nat → Int32)) (f_worths : (Nat → Int32)) (x_t_signs : Int32) (v1 : Int32) : Option Int32 := if v1 = 0 then (some x_t_signs) else (ogb (m_X8_in v1 100 129) (fun q_102 => if q_102 = 0 then (some (-2)) else (ogi (v1 - 100) 30 (some (f_worths (Int32.toNatClampNeg (v1 - 100)))))))
noncomputable def m_X8_told_45 (f_lucky : (Nat → Int32)) (f_may : (Nat → Int32)) (f_ranks : (Nat → Int32)) (f_voyage : (Nat → Int32)) (f_worths : (Nat → Int32)) (x_t_signs : Int32) (v1 : Int32) (v2 : Int32) : Option Int32 := ogb (m_X8_in v1 30 44) (fun q_50 => if q_50 = 0 then ((m_X8_told_85 f_lucky f_may f_ranks f_voyage f_worths x_t_signs v1)) else (ogb (m_X8_isName v2) (fun q_57 => if q_57 = 0 then ((m_X8_told_85 f_lucky f_may f_ranks f_voyage f_worths x_t_signs v1)) else (if 40 ≤ v1 then (ogi v2 5 (some (f_ranks (Int32.toNatClampNeg v2)))) else (ogi v2 5 (some (f_lucky (Int32.toNatClampNeg v2))))))))
noncomputable def m_X8_told (f_lucky : (Nat → Int32)) (f_may : (Nat → Int32)) (f_ranks : (Nat → Int32)) (f_voyage : (Nat → Int32)) (f_worths : (Nat → Int32)) (x_t_signs : Int32) (v1 : Int32) : Option Int32 := ogl (v1 - v1 / 10 * 10) (fun (v2_4 : Int32) => ogb (m_X8_in v1 10 25) (fun q_10 => if q_10 = 0 then ((m_X8_told_45 f_lucky f_may f_ranks f_voyage f_worths x_t_signs v1 v2_4)) else (ogb (m_X8_isHull v2_4) (fun q_17 => if q_17 = 0 then ((m_X8_told_45 f_lucky f_may f_ranks f_voyage f_worths x_t_signs v1 v2_4)) else (if 20 ≤ v1 then (ogi v2_4 6 (some (f_voyage (Int32.toNatClampNeg v2_4)))) else (ogi v2_4 6 (some (f_may (Int32.toNatClampNeg v2_4)))))))))
set_option maxHeartbeats 4000000 in
set_option maxRecDepth 100000 in
theorem c_X8_told (l : Launch) (D : va_G) (cI cZ : ClassId) (a_t a_lucky a_may a_ranks a_voyage a_worths b_pad b_bears b_due b_borneBy b_gone b_sunk b_times b_whoBore b_gives b_best b_holds b_refused b_sums b_image b_isKept : Nat) (f_lucky : (Nat → Int32)) (f_may : (Nat → Int32)) (f_ranks : (Nat → Int32)) (f_voyage : (Nat → Int32)) (f_worths : (Nat → Int32)) (x_t_signs : Int32) (x_t_day : Int32) (x_t_reason : Int32) (x_t_asked : Int32) (v1 : Int32) {res : Int32} (h : m_X8_told f_lucky f_may f_ranks f_voyage f_worths x_t_signs v1 = some res) : CT l yX8_told wsX8_told ({ frames := 2, cells := 0, slots := 0, locals := 42 } : Room) D cI cZ [.ref a_t, .int v1] [(a_t, .inr (8, [.ref a_may, .ref a_voyage, .ref a_lucky, .ref a_worths, .ref a_ranks, .int x_t_signs, .ref b_pad, .int x_t_day, .int x_t_reason, .ref b_bears, .ref b_due, .ref b_borneBy, .ref b_gone, .ref b_sunk, .ref b_times, .int x_t_asked, .ref b_whoBore, .ref b_gives, .ref b_best, .ref b_holds, .ref b_refused, .ref b_sums, .ref b_image, .ref b_isKept])), (a_lucky, .inl (cI, 5, .inl f_lucky)), (a_may, .inl (cI, 6, .inl f_may)), (a_ranks, .inl (cI, 5, .inl f_ranks)), (a_voyage, .inl (cI, 6, .inl f_voyage)), (a_worths, .inl (cI, 30, .inl f_worths))] (QI D [(a_t, .inr (8, [.ref a_may, .ref a_voyage, .ref a_lucky, .ref a_worths, .ref a_ranks, .int x_t_signs, .ref b_pad, .int x_t_day, .int x_t_reason, .ref b_bears, .ref b_due, .ref b_borneBy, .ref b_gone, .ref b_sunk, .ref b_times, .int x_t_asked, .ref b_whoBore, .ref b_gives, .ref b_best, .ref b_holds, .ref b_refused, .ref b_sums, .ref b_image, .ref b_isKept])), (a_lucky, .inl (cI, 5, .inl f_lucky)), (a_may, .inl (cI, 6, .inl f_may)), (a_ranks, .inl (cI, 5, .inl f_ranks)), (a_voyage, .inl (cI, 6, .inl f_voyage)), (a_worths, .inl (cI, 30, .inl f_worths))] (fun (r : Int32) (_ : Unit) => r = res) (fun (u : Unit) => [(a_t, .inr (8, [.ref a_may, .ref a_voyage, .ref a_lucky, .ref a_worths, .ref a_ranks, .int x_t_signs, .ref b_pad, .int x_t_day, .int x_t_reason, .ref b_bears, .ref b_due, .ref b_borneBy, .ref b_gone, .ref b_sunk, .ref b_times, .int x_t_asked, .ref b_whoBore, .ref b_gives, .ref b_best, .ref b_holds, .ref b_refused, .ref b_sums, .ref b_image, .ref b_isKept])), (a_lucky, .inl (cI, 5, .inl f_lucky)), (a_may, .inl (cI, 6, .inl f_may)), (a_ranks, .inl (cI, 5, .inl f_ranks)), (a_voyage, .inl (cI, 6, .inl f_voyage)), (a_worths, .inl (cI, 30, .inl f_worths))])) 0 0 := by
  have h : (ogl (v1 - v1 / 10 * 10) (fun (v2_4 : Int32) => ogb (m_X8_in v1 10 25) (fun q_10 => if q_10 = 0 then ((m_X8_told_45 f_lucky f_may f_ranks f_voyage f_worths x_t_signs v1 v2_4)) else (ogb (m_X8_isHull v2_4) (fun q_17 => if q_17 = 0 then ((m_X8_told_45 f_lucky f_may f_ranks f_voyage f_worths x_t_signs v1 v2_4)) else (if 20 ≤ v1 then (ogi v2_4 6 (some (f_voyage (Int32.toNatClampNeg v2_4)))) else (ogi v2_4 6 (some (f_may (Int32.toNatClampNeg v2_4))))))))) : Option Int32) = some res := h
  refine ct_entry (cc := cX8_told) (nl := 3) (ret := (some .int)) (own := RX8) (lv0 := [(0, .ref a_t), (1, .int v1)]) (by decide) rfl rfl (Nat.le_of_ble_eq_true rfl) rfl ?_
  intro p e s m args below meth c A Q hA hQ hr hnm B
  have iX8 : ∀ w ∈ wsX80, w ∈ wsX8_told := by decide +kernel
  have cut_85 : ∀ (v1 : Int32), m_X8_told_85 f_lucky f_may f_ranks f_voyage f_worths x_t_signs v1 = some res → WW p l e (headSpec wsX8_told ({ frames := 2, cells := 0, slots := 0, locals := 42 } : Room)).room s m args below meth c D A 3 0 0 Q [(a_t, .inr (8, [.ref a_may, .ref a_voyage, .ref a_lucky, .ref a_worths, .ref a_ranks, .int x_t_signs, .ref b_pad, .int x_t_day, .int x_t_reason, .ref b_bears, .ref b_due, .ref b_borneBy, .ref b_gone, .ref b_sunk, .ref b_times, .int x_t_asked, .ref b_whoBore, .ref b_gives, .ref b_best, .ref b_holds, .ref b_refused, .ref b_sums, .ref b_image, .ref b_isKept])), (a_lucky, .inl (cI, 5, .inl f_lucky)), (a_may, .inl (cI, 6, .inl f_may)), (a_ranks, .inl (cI, 5, .inl f_ranks)), (a_voyage, .inl (cI, 6, .inl f_voyage)), (a_worths, .inl (cI, 30, .inl f_worths))] [(0, .ref a_t), (1, .int v1)] [] 85 := by
    intro v1 h
    replace h : (if v1 = 0 then (some x_t_signs) else (ogb (m_X8_in v1 100 129) (fun q_102 => if q_102 = 0 then (some (-2)) else (ogi (v1 - 100) 30 (some (f_worths (Int32.toNatClampNeg (v1 - 100))))))) : Option Int32) = some res := h
    refine ww_iload_n B dX8_told_85 1 rfl ?_
    refine ww_if_ne B 96 dX8_told_86 (by decide) (fun c_86 => ?_) (fun c_86 => ?_)
    · replace h := og_f c_86 h
      refine ww_iload_n B dX8_told_96 1 rfl ?_
      refine ww_bipush B dX8_told_97 (v := 100) (by decide) ?_
      refine ww_sipush B dX8_told_99 (v := 129) (by decide) ?_
      obtain ⟨q_102, hq_102, h⟩ := og_b h
      refine ww_ci0 B (k' := 0) (n' := 0) rfl rfl [] [0, 1, 2, 3, 4, 5] (wr := [(a_t, .inr (8, [.ref a_may, .ref a_voyage, .ref a_lucky, .ref a_worths, .ref a_ranks, .int x_t_signs, .ref b_pad, .int x_t_day, .int x_t_reason, .ref b_bears, .ref b_due, .ref b_borneBy, .ref b_gone, .ref b_sunk, .ref b_times, .int x_t_asked, .ref b_whoBore, .ref b_gives, .ref b_best, .ref b_holds, .ref b_refused, .ref b_sums, .ref b_image, .ref b_isKept])), (a_lucky, .inl (cI, 5, .inl f_lucky)), (a_may, .inl (cI, 6, .inl f_may)), (a_ranks, .inl (cI, 5, .inl f_ranks)), (a_voyage, .inl (cI, 6, .inl f_voyage)), (a_worths, .inl (cI, 30, .inl f_worths))]) (st := []) rfl rfl (by decide) (rr_S B (c_X8_in l D cI cZ v1 100 129 hq_102) gX8_told_X8_in rfl rfl rfl (N := 3) rfl (by decide +kernel) ⟨Nat.le_of_ble_eq_true rfl, Nat.le_of_ble_eq_true rfl⟩ rfl dX8_told_102 (Nat.le_of_ble_eq_true rfl) ⟨Nat.le_of_ble_eq_true rfl, Nat.le_of_ble_eq_true rfl⟩) (ws' := [(a_t, .inr (8, [.ref a_may, .ref a_voyage, .ref a_lucky, .ref a_worths, .ref a_ranks, .int x_t_signs, .ref b_pad, .int x_t_day, .int x_t_reason, .ref b_bears, .ref b_due, .ref b_borneBy, .ref b_gone, .ref b_sunk, .ref b_times, .int x_t_asked, .ref b_whoBore, .ref b_gives, .ref b_best, .ref b_holds, .ref b_refused, .ref b_sums, .ref b_image, .ref b_isKept])), (a_lucky, .inl (cI, 5, .inl f_lucky)), (a_may, .inl (cI, 6, .inl f_may)), (a_ranks, .inl (cI, 5, .inl f_ranks)), (a_voyage, .inl (cI, 6, .inl f_voyage)), (a_worths, .inl (cI, 30, .inl f_worths))]) rfl ?_
      refine ww_if_eq B 120 dX8_told_105 (by decide) (fun c_105 => ?_) (fun c_105 => ?_)
      · replace h := og_t c_105 h
        refine ww_bipush B dX8_told_120 (v := (-2)) (by decide) ?_
        exact ww_iret B hA hQ hr dX8_told_122 () [0, 1, 2, 3, 4, 5] rfl (by decide) (og_s h).symm
      · replace h := og_f c_105 h
        refine ww_aload_n B dX8_told_108 0 rfl ?_
        refine ww_get (ci := 8) (T := TX8) (C := RX8) (N := 24) B iX8 0 rfl rfl 3 (by decide) (by decide +kernel) rfl rfl dX8_told_109 ?_
        refine ww_iload_n B dX8_told_112 1 rfl ?_
        refine ww_bipush B dX8_told_113 (v := 100) (by decide) ?_
        refine ww_isub B dX8_told_115 ?_
        obtain ⟨i_116, h⟩ := og_i h
        refine ww_iald B 5 rfl i_116 dX8_told_116 ?_
        refine ww_goto B 122 dX8_told_117 (by decide) ?_
        exact ww_iret B hA hQ hr dX8_told_122 () [0, 1, 2, 3, 4, 5] rfl (by decide) (og_s h).symm
    · replace h := og_t c_86 h
      refine ww_aload_n B dX8_told_89 0 rfl ?_
      refine ww_get (ci := 8) (T := TX8) (C := RX8) (N := 24) B iX8 0 rfl rfl 5 (by decide) (by decide +kernel) rfl rfl dX8_told_90 ?_
      refine ww_goto B 122 dX8_told_93 (by decide) ?_
      exact ww_iret B hA hQ hr dX8_told_122 () [0, 1, 2, 3, 4, 5] rfl (by decide) (og_s h).symm
  have cut_45 : ∀ (v1 : Int32) (v2 : Int32), m_X8_told_45 f_lucky f_may f_ranks f_voyage f_worths x_t_signs v1 v2 = some res → WW p l e (headSpec wsX8_told ({ frames := 2, cells := 0, slots := 0, locals := 42 } : Room)).room s m args below meth c D A 3 0 0 Q [(a_t, .inr (8, [.ref a_may, .ref a_voyage, .ref a_lucky, .ref a_worths, .ref a_ranks, .int x_t_signs, .ref b_pad, .int x_t_day, .int x_t_reason, .ref b_bears, .ref b_due, .ref b_borneBy, .ref b_gone, .ref b_sunk, .ref b_times, .int x_t_asked, .ref b_whoBore, .ref b_gives, .ref b_best, .ref b_holds, .ref b_refused, .ref b_sums, .ref b_image, .ref b_isKept])), (a_lucky, .inl (cI, 5, .inl f_lucky)), (a_may, .inl (cI, 6, .inl f_may)), (a_ranks, .inl (cI, 5, .inl f_ranks)), (a_voyage, .inl (cI, 6, .inl f_voyage)), (a_worths, .inl (cI, 30, .inl f_worths))] [(0, .ref a_t), (1, .int v1), (2, .int v2)] [] 45 := by
    intro v1 v2 h
    replace h : (ogb (m_X8_in v1 30 44) (fun q_50 => if q_50 = 0 then ((m_X8_told_85 f_lucky f_may f_ranks f_voyage f_worths x_t_signs v1)) else (ogb (m_X8_isName v2) (fun q_57 => if q_57 = 0 then ((m_X8_told_85 f_lucky f_may f_ranks f_voyage f_worths x_t_signs v1)) else (if 40 ≤ v1 then (ogi v2 5 (some (f_ranks (Int32.toNatClampNeg v2)))) else (ogi v2 5 (some (f_lucky (Int32.toNatClampNeg v2)))))))) : Option Int32) = some res := h
    refine ww_iload_n B dX8_told_45 1 rfl ?_
    refine ww_bipush B dX8_told_46 (v := 30) (by decide) ?_
    refine ww_bipush B dX8_told_48 (v := 44) (by decide) ?_
    obtain ⟨q_50, hq_50, h⟩ := og_b h
    refine ww_ci0 B (k' := 0) (n' := 0) rfl rfl [] [0, 1, 2, 3, 4, 5] (wr := [(a_t, .inr (8, [.ref a_may, .ref a_voyage, .ref a_lucky, .ref a_worths, .ref a_ranks, .int x_t_signs, .ref b_pad, .int x_t_day, .int x_t_reason, .ref b_bears, .ref b_due, .ref b_borneBy, .ref b_gone, .ref b_sunk, .ref b_times, .int x_t_asked, .ref b_whoBore, .ref b_gives, .ref b_best, .ref b_holds, .ref b_refused, .ref b_sums, .ref b_image, .ref b_isKept])), (a_lucky, .inl (cI, 5, .inl f_lucky)), (a_may, .inl (cI, 6, .inl f_may)), (a_ranks, .inl (cI, 5, .inl f_ranks)), (a_voyage, .inl (cI, 6, .inl f_voyage)), (a_worths, .inl (cI, 30, .inl f_worths))]) (st := []) rfl rfl (by decide) (rr_S B (c_X8_in l D cI cZ v1 30 44 hq_50) gX8_told_X8_in rfl rfl rfl (N := 3) rfl (by decide +kernel) ⟨Nat.le_of_ble_eq_true rfl, Nat.le_of_ble_eq_true rfl⟩ rfl dX8_told_50 (Nat.le_of_ble_eq_true rfl) ⟨Nat.le_of_ble_eq_true rfl, Nat.le_of_ble_eq_true rfl⟩) (ws' := [(a_t, .inr (8, [.ref a_may, .ref a_voyage, .ref a_lucky, .ref a_worths, .ref a_ranks, .int x_t_signs, .ref b_pad, .int x_t_day, .int x_t_reason, .ref b_bears, .ref b_due, .ref b_borneBy, .ref b_gone, .ref b_sunk, .ref b_times, .int x_t_asked, .ref b_whoBore, .ref b_gives, .ref b_best, .ref b_holds, .ref b_refused, .ref b_sums, .ref b_image, .ref b_isKept])), (a_lucky, .inl (cI, 5, .inl f_lucky)), (a_may, .inl (cI, 6, .inl f_may)), (a_ranks, .inl (cI, 5, .inl f_ranks)), (a_voyage, .inl (cI, 6, .inl f_voyage)), (a_worths, .inl (cI, 30, .inl f_worths))]) rfl ?_
    refine ww_if_eq B 85 dX8_told_53 (by decide) (fun c_53 => ?_) (fun c_53 => ?_)
    · replace h := og_t c_53 h
      refine ww_lsel (lv' := [(0, .ref a_t), (1, .int v1)]) [0, 1] rfl ?_
      exact cut_85 _ h
    · replace h := og_f c_53 h
      refine ww_iload_n B dX8_told_56 2 rfl ?_
      obtain ⟨q_57, hq_57, h⟩ := og_b h
      refine ww_ci0 B (k' := 0) (n' := 0) rfl rfl [] [0, 1, 2, 3, 4, 5] (wr := [(a_t, .inr (8, [.ref a_may, .ref a_voyage, .ref a_lucky, .ref a_worths, .ref a_ranks, .int x_t_signs, .ref b_pad, .int x_t_day, .int x_t_reason, .ref b_bears, .ref b_due, .ref b_borneBy, .ref b_gone, .ref b_sunk, .ref b_times, .int x_t_asked, .ref b_whoBore, .ref b_gives, .ref b_best, .ref b_holds, .ref b_refused, .ref b_sums, .ref b_image, .ref b_isKept])), (a_lucky, .inl (cI, 5, .inl f_lucky)), (a_may, .inl (cI, 6, .inl f_may)), (a_ranks, .inl (cI, 5, .inl f_ranks)), (a_voyage, .inl (cI, 6, .inl f_voyage)), (a_worths, .inl (cI, 30, .inl f_worths))]) (st := []) rfl rfl (by decide) (rr_S B (c_X8_isName l D cI cZ v2 hq_57) gX8_told_X8_isName rfl rfl rfl (N := 1) rfl (by decide +kernel) ⟨Nat.le_of_ble_eq_true rfl, Nat.le_of_ble_eq_true rfl⟩ rfl dX8_told_57 (Nat.le_of_ble_eq_true rfl) ⟨Nat.le_of_ble_eq_true rfl, Nat.le_of_ble_eq_true rfl⟩) (ws' := [(a_t, .inr (8, [.ref a_may, .ref a_voyage, .ref a_lucky, .ref a_worths, .ref a_ranks, .int x_t_signs, .ref b_pad, .int x_t_day, .int x_t_reason, .ref b_bears, .ref b_due, .ref b_borneBy, .ref b_gone, .ref b_sunk, .ref b_times, .int x_t_asked, .ref b_whoBore, .ref b_gives, .ref b_best, .ref b_holds, .ref b_refused, .ref b_sums, .ref b_image, .ref b_isKept])), (a_lucky, .inl (cI, 5, .inl f_lucky)), (a_may, .inl (cI, 6, .inl f_may)), (a_ranks, .inl (cI, 5, .inl f_ranks)), (a_voyage, .inl (cI, 6, .inl f_voyage)), (a_worths, .inl (cI, 30, .inl f_worths))]) rfl ?_
      refine ww_if_eq B 85 dX8_told_60 (by decide) (fun c_60 => ?_) (fun c_60 => ?_)
      · replace h := og_t c_60 h
        refine ww_lsel (lv' := [(0, .ref a_t), (1, .int v1)]) [0, 1] rfl ?_
        exact cut_85 _ h
      · replace h := og_f c_60 h
        refine ww_iload_n B dX8_told_63 1 rfl ?_
        refine ww_bipush B dX8_told_64 (v := 40) (by decide) ?_
        refine ww_icmp_ge B 78 dX8_told_66 (by decide) (fun c_66 => ?_) (fun c_66 => ?_)
        · replace h := og_t c_66 h
          refine ww_aload_n B dX8_told_78 0 rfl ?_
          refine ww_get (ci := 8) (T := TX8) (C := RX8) (N := 24) B iX8 0 rfl rfl 4 (by decide) (by decide +kernel) rfl rfl dX8_told_79 ?_
          refine ww_iload_n B dX8_told_82 2 rfl ?_
          obtain ⟨i_83, h⟩ := og_i h
          refine ww_iald B 3 rfl i_83 dX8_told_83 ?_
          exact ww_iret B hA hQ hr dX8_told_84 () [0, 1, 2, 3, 4, 5] rfl (by decide) (og_s h).symm
        · replace h := og_f c_66 h
          refine ww_aload_n B dX8_told_69 0 rfl ?_
          refine ww_get (ci := 8) (T := TX8) (C := RX8) (N := 24) B iX8 0 rfl rfl 2 (by decide) (by decide +kernel) rfl rfl dX8_told_70 ?_
          refine ww_iload_n B dX8_told_73 2 rfl ?_
          obtain ⟨i_74, h⟩ := og_i h
          refine ww_iald B 1 rfl i_74 dX8_told_74 ?_
          refine ww_goto B 84 dX8_told_75 (by decide) ?_
          exact ww_iret B hA hQ hr dX8_told_84 () [0, 1, 2, 3, 4, 5] rfl (by decide) (og_s h).symm
  refine ww_iload_n B dX8_told_0 1 rfl ?_
  refine ww_bipush B dX8_told_1 (v := 10) (by decide) ?_
  refine ww_irem B dX8_told_3 (by decide) ?_
  refine ww_topi (fun v2_4 ev2_4 => ?_)
  replace h := og_l ev2_4 h
  refine ww_istore_n B dX8_told_4 (lv' := [(2, .int v2_4), (0, .ref a_t), (1, .int v1)]) (by decide) rfl ?_
  refine ww_iload_n B dX8_told_5 2 rfl ?_
  refine ww_bipush B dX8_told_6 (v := 10) (by decide) ?_
  refine ww_bipush B dX8_told_8 (v := 25) (by decide) ?_
  obtain ⟨q_10, hq_10, h⟩ := og_b h
  refine ww_ci0 B (k' := 0) (n' := 0) rfl rfl [] [0, 1, 2, 3, 4, 5] (wr := [(a_t, .inr (8, [.ref a_may, .ref a_voyage, .ref a_lucky, .ref a_worths, .ref a_ranks, .int x_t_signs, .ref b_pad, .int x_t_day, .int x_t_reason, .ref b_bears, .ref b_due, .ref b_borneBy, .ref b_gone, .ref b_sunk, .ref b_times, .int x_t_asked, .ref b_whoBore, .ref b_gives, .ref b_best, .ref b_holds, .ref b_refused, .ref b_sums, .ref b_image, .ref b_isKept])), (a_lucky, .inl (cI, 5, .inl f_lucky)), (a_may, .inl (cI, 6, .inl f_may)), (a_ranks, .inl (cI, 5, .inl f_ranks)), (a_voyage, .inl (cI, 6, .inl f_voyage)), (a_worths, .inl (cI, 30, .inl f_worths))]) (st := []) rfl rfl (by decide) (rr_S B (c_X8_in l D cI cZ v1 10 25 hq_10) gX8_told_X8_in rfl rfl rfl (N := 3) rfl (by decide +kernel) ⟨Nat.le_of_ble_eq_true rfl, Nat.le_of_ble_eq_true rfl⟩ rfl dX8_told_10 (Nat.le_of_ble_eq_true rfl) ⟨Nat.le_of_ble_eq_true rfl, Nat.le_of_ble_eq_true rfl⟩) (ws' := [(a_t, .inr (8, [.ref a_may, .ref a_voyage, .ref a_lucky, .ref a_worths, .ref a_ranks, .int x_t_signs, .ref b_pad, .int x_t_day, .int x_t_reason, .ref b_bears, .ref b_due, .ref b_borneBy, .ref b_gone, .ref b_sunk, .ref b_times, .int x_t_asked, .ref b_whoBore, .ref b_gives, .ref b_best, .ref b_holds, .ref b_refused, .ref b_sums, .ref b_image, .ref b_isKept])), (a_lucky, .inl (cI, 5, .inl f_lucky)), (a_may, .inl (cI, 6, .inl f_may)), (a_ranks, .inl (cI, 5, .inl f_ranks)), (a_voyage, .inl (cI, 6, .inl f_voyage)), (a_worths, .inl (cI, 30, .inl f_worths))]) rfl ?_
  refine ww_if_eq B 45 dX8_told_13 (by decide) (fun c_13 => ?_) (fun c_13 => ?_)
  · replace h := og_t c_13 h
    refine ww_lsel (lv' := [(0, .ref a_t), (1, .int v1), (2, .int v2_4)]) [1, 2, 0] rfl ?_
    exact cut_45 _ _ h
  · replace h := og_f c_13 h
    refine ww_iload_n B dX8_told_16 0 rfl ?_
    obtain ⟨q_17, hq_17, h⟩ := og_b h
    refine ww_ci0 B (k' := 0) (n' := 0) rfl rfl [] [0, 1, 2, 3, 4, 5] (wr := [(a_t, .inr (8, [.ref a_may, .ref a_voyage, .ref a_lucky, .ref a_worths, .ref a_ranks, .int x_t_signs, .ref b_pad, .int x_t_day, .int x_t_reason, .ref b_bears, .ref b_due, .ref b_borneBy, .ref b_gone, .ref b_sunk, .ref b_times, .int x_t_asked, .ref b_whoBore, .ref b_gives, .ref b_best, .ref b_holds, .ref b_refused, .ref b_sums, .ref b_image, .ref b_isKept])), (a_lucky, .inl (cI, 5, .inl f_lucky)), (a_may, .inl (cI, 6, .inl f_may)), (a_ranks, .inl (cI, 5, .inl f_ranks)), (a_voyage, .inl (cI, 6, .inl f_voyage)), (a_worths, .inl (cI, 30, .inl f_worths))]) (st := []) rfl rfl (by decide) (rr_S B (c_X8_isHull l D cI cZ v2_4 hq_17) gX8_told_X8_isHull rfl rfl rfl (N := 1) rfl (by decide +kernel) ⟨Nat.le_of_ble_eq_true rfl, Nat.le_of_ble_eq_true rfl⟩ rfl dX8_told_17 (Nat.le_of_ble_eq_true rfl) ⟨Nat.le_of_ble_eq_true rfl, Nat.le_of_ble_eq_true rfl⟩) (ws' := [(a_t, .inr (8, [.ref a_may, .ref a_voyage, .ref a_lucky, .ref a_worths, .ref a_ranks, .int x_t_signs, .ref b_pad, .int x_t_day, .int x_t_reason, .ref b_bears, .ref b_due, .ref b_borneBy, .ref b_gone, .ref b_sunk, .ref b_times, .int x_t_asked, .ref b_whoBore, .ref b_gives, .ref b_best, .ref b_holds, .ref b_refused, .ref b_sums, .ref b_image, .ref b_isKept])), (a_lucky, .inl (cI, 5, .inl f_lucky)), (a_may, .inl (cI, 6, .inl f_may)), (a_ranks, .inl (cI, 5, .inl f_ranks)), (a_voyage, .inl (cI, 6, .inl f_voyage)), (a_worths, .inl (cI, 30, .inl f_worths))]) rfl ?_
    refine ww_if_eq B 45 dX8_told_20 (by decide) (fun c_20 => ?_) (fun c_20 => ?_)
    · replace h := og_t c_20 h
      refine ww_lsel (lv' := [(0, .ref a_t), (1, .int v1), (2, .int v2_4)]) [1, 2, 0] rfl ?_
      exact cut_45 _ _ h
    · replace h := og_f c_20 h
      refine ww_iload_n B dX8_told_23 2 rfl ?_
      refine ww_bipush B dX8_told_24 (v := 20) (by decide) ?_
      refine ww_icmp_ge B 38 dX8_told_26 (by decide) (fun c_26 => ?_) (fun c_26 => ?_)
      · replace h := og_t c_26 h
        refine ww_aload_n B dX8_told_38 1 rfl ?_
        refine ww_get (ci := 8) (T := TX8) (C := RX8) (N := 24) B iX8 0 rfl rfl 1 (by decide) (by decide +kernel) rfl rfl dX8_told_39 ?_
        refine ww_iload_n B dX8_told_42 0 rfl ?_
        obtain ⟨i_43, h⟩ := og_i h
        refine ww_iald B 4 rfl i_43 dX8_told_43 ?_
        exact ww_iret B hA hQ hr dX8_told_44 () [0, 1, 2, 3, 4, 5] rfl (by decide) (og_s h).symm
      · replace h := og_f c_26 h
        refine ww_aload_n B dX8_told_29 1 rfl ?_
        refine ww_get (ci := 8) (T := TX8) (C := RX8) (N := 24) B iX8 0 rfl rfl 0 (by decide) (by decide +kernel) rfl rfl dX8_told_30 ?_
        refine ww_iload_n B dX8_told_33 0 rfl ?_
        obtain ⟨i_34, h⟩ := og_i h
        refine ww_iald B 2 rfl i_34 dX8_told_34 ?_
        refine ww_goto B 44 dX8_told_35 (by decide) ?_
        exact ww_iret B hA hQ hr dX8_told_44 () [0, 1, 2, 3, 4, 5] rfl (by decide) (og_s h).symm
noncomputable def m_X8_voyages (f_may : (Nat → Int32)) (f_voyage : (Nat → Int32)) (f_best : (Nat → Int32)) (f_gives : (Nat → Int32)) (f_sums : (Nat → Int32)) (v1 : Int32) : Option (Int32 × ((Nat → Int32) × (Nat → Int32) × (Nat → Int32))) := ogb (m_X8_in v1 (-1) 5) (fun q_3 => if q_3 = 0 then (some ((-2), (f_best, f_gives, f_sums))) else (ogb (m_X8_daysBy f_may f_voyage f_best f_gives f_sums 31) (fun q_15 => if q_15.1 = 1000000 then (some ((-6), (q_15.2.1, q_15.2.2.1, q_15.2.2.2))) else (if v1 = (-1) then (some (q_15.1, (q_15.2.1, q_15.2.2.1, q_15.2.2.2))) else (ogi v1 6 (some ((q_15.2.1 (Int32.toNatClampNeg v1)), (q_15.2.1, q_15.2.2.1, q_15.2.2.2))))))))
set_option maxHeartbeats 4000000 in
set_option maxRecDepth 100000 in
theorem c_X8_voyages (l : Launch) (D : va_G) (cI cZ : ClassId) (a_t a_best a_gives a_may a_sums a_voyage b_lucky b_worths b_ranks b_pad b_bears b_due b_borneBy b_gone b_sunk b_times b_whoBore b_holds b_refused b_image b_isKept : Nat) (f_best : (Nat → Int32)) (f_gives : (Nat → Int32)) (f_may : (Nat → Int32)) (f_sums : (Nat → Int32)) (f_voyage : (Nat → Int32)) (x_t_signs : Int32) (x_t_day : Int32) (x_t_reason : Int32) (x_t_asked : Int32) (v1 : Int32) {res : (Int32 × ((Nat → Int32) × (Nat → Int32) × (Nat → Int32)))} (h : m_X8_voyages f_may f_voyage f_best f_gives f_sums v1 = some res) : CT l yX8_voyages wsX8_voyages ({ frames := 2, cells := 0, slots := 0, locals := 49 } : Room) D cI cZ [.ref a_t, .int v1] [(a_t, .inr (8, [.ref a_may, .ref a_voyage, .ref b_lucky, .ref b_worths, .ref b_ranks, .int x_t_signs, .ref b_pad, .int x_t_day, .int x_t_reason, .ref b_bears, .ref b_due, .ref b_borneBy, .ref b_gone, .ref b_sunk, .ref b_times, .int x_t_asked, .ref b_whoBore, .ref a_gives, .ref a_best, .ref b_holds, .ref b_refused, .ref a_sums, .ref b_image, .ref b_isKept])), (a_best, .inl (cI, 6, .inl f_best)), (a_gives, .inl (cI, 6, .inl f_gives)), (a_may, .inl (cI, 6, .inl f_may)), (a_sums, .inl (cI, 5, .inl f_sums)), (a_voyage, .inl (cI, 6, .inl f_voyage))] (QI D [(a_t, .inr (8, [.ref a_may, .ref a_voyage, .ref b_lucky, .ref b_worths, .ref b_ranks, .int x_t_signs, .ref b_pad, .int x_t_day, .int x_t_reason, .ref b_bears, .ref b_due, .ref b_borneBy, .ref b_gone, .ref b_sunk, .ref b_times, .int x_t_asked, .ref b_whoBore, .ref a_gives, .ref a_best, .ref b_holds, .ref b_refused, .ref a_sums, .ref b_image, .ref b_isKept])), (a_best, .inl (cI, 6, .inl f_best)), (a_gives, .inl (cI, 6, .inl f_gives)), (a_may, .inl (cI, 6, .inl f_may)), (a_sums, .inl (cI, 5, .inl f_sums)), (a_voyage, .inl (cI, 6, .inl f_voyage))] (fun (r : Int32) (u : (Nat → Int32) × (Nat → Int32) × (Nat → Int32)) => r = res.1 ∧ u = res.2) (fun (u : (Nat → Int32) × (Nat → Int32) × (Nat → Int32)) => [(a_t, .inr (8, [.ref a_may, .ref a_voyage, .ref b_lucky, .ref b_worths, .ref b_ranks, .int x_t_signs, .ref b_pad, .int x_t_day, .int x_t_reason, .ref b_bears, .ref b_due, .ref b_borneBy, .ref b_gone, .ref b_sunk, .ref b_times, .int x_t_asked, .ref b_whoBore, .ref a_gives, .ref a_best, .ref b_holds, .ref b_refused, .ref a_sums, .ref b_image, .ref b_isKept])), (a_best, .inl (cI, 6, .inl u.1)), (a_gives, .inl (cI, 6, .inl u.2.1)), (a_may, .inl (cI, 6, .inl f_may)), (a_sums, .inl (cI, 5, .inl u.2.2)), (a_voyage, .inl (cI, 6, .inl f_voyage))])) 0 0 := by
  have h : (ogb (m_X8_in v1 (-1) 5) (fun q_3 => if q_3 = 0 then (some ((-2), (f_best, f_gives, f_sums))) else (ogb (m_X8_daysBy f_may f_voyage f_best f_gives f_sums 31) (fun q_15 => if q_15.1 = 1000000 then (some ((-6), (q_15.2.1, q_15.2.2.1, q_15.2.2.2))) else (if v1 = (-1) then (some (q_15.1, (q_15.2.1, q_15.2.2.1, q_15.2.2.2))) else (ogi v1 6 (some ((q_15.2.1 (Int32.toNatClampNeg v1)), (q_15.2.1, q_15.2.2.1, q_15.2.2.2)))))))) : Option (Int32 × ((Nat → Int32) × (Nat → Int32) × (Nat → Int32)))) = some res := h
  refine ct_entry (cc := cX8_voyages) (nl := 3) (ret := (some .int)) (own := RX8) (lv0 := [(0, .ref a_t), (1, .int v1)]) (by decide) rfl rfl (Nat.le_of_ble_eq_true rfl) rfl ?_
  intro p e s m args below meth c A Q hA hQ hr hnm B
  have iX8 : ∀ w ∈ wsX80, w ∈ wsX8_voyages := by decide +kernel
  refine ww_iload_n B dX8_voyages_0 1 rfl ?_
  refine ww_iconst B dX8_voyages_1 (v := (-1)) (by decide) ?_
  refine ww_iconst B dX8_voyages_2 (v := 5) (by decide) ?_
  obtain ⟨q_3, hq_3, h⟩ := og_b h
  refine ww_ci0 B (k' := 0) (n' := 0) rfl rfl [] [0, 1, 2, 3, 4, 5] (wr := [(a_t, .inr (8, [.ref a_may, .ref a_voyage, .ref b_lucky, .ref b_worths, .ref b_ranks, .int x_t_signs, .ref b_pad, .int x_t_day, .int x_t_reason, .ref b_bears, .ref b_due, .ref b_borneBy, .ref b_gone, .ref b_sunk, .ref b_times, .int x_t_asked, .ref b_whoBore, .ref a_gives, .ref a_best, .ref b_holds, .ref b_refused, .ref a_sums, .ref b_image, .ref b_isKept])), (a_best, .inl (cI, 6, .inl f_best)), (a_gives, .inl (cI, 6, .inl f_gives)), (a_may, .inl (cI, 6, .inl f_may)), (a_sums, .inl (cI, 5, .inl f_sums)), (a_voyage, .inl (cI, 6, .inl f_voyage))]) (st := []) rfl rfl (by decide) (rr_S B (c_X8_in l D cI cZ v1 (-1) 5 hq_3) gX8_voyages_X8_in rfl rfl rfl (N := 3) rfl (by decide +kernel) ⟨Nat.le_of_ble_eq_true rfl, Nat.le_of_ble_eq_true rfl⟩ rfl dX8_voyages_3 (Nat.le_of_ble_eq_true rfl) ⟨Nat.le_of_ble_eq_true rfl, Nat.le_of_ble_eq_true rfl⟩) (ws' := [(a_t, .inr (8, [.ref a_may, .ref a_voyage, .ref b_lucky, .ref b_worths, .ref b_ranks, .int x_t_signs, .ref b_pad, .int x_t_day, .int x_t_reason, .ref b_bears, .ref b_due, .ref b_borneBy, .ref b_gone, .ref b_sunk, .ref b_times, .int x_t_asked, .ref b_whoBore, .ref a_gives, .ref a_best, .ref b_holds, .ref b_refused, .ref a_sums, .ref b_image, .ref b_isKept])), (a_best, .inl (cI, 6, .inl f_best)), (a_gives, .inl (cI, 6, .inl f_gives)), (a_may, .inl (cI, 6, .inl f_may)), (a_sums, .inl (cI, 5, .inl f_sums)), (a_voyage, .inl (cI, 6, .inl f_voyage))]) rfl ?_
  refine ww_if_ne B 12 dX8_voyages_6 (by decide) (fun c_6 => ?_) (fun c_6 => ?_)
  · replace h := og_f c_6 h
    refine ww_aload_n B dX8_voyages_12 0 rfl ?_
    refine ww_bipush B dX8_voyages_13 (v := 31) (by decide) ?_
    obtain ⟨q_15, hq_15, h⟩ := og_b h
    refine ww_ciM B (k' := 0) (n' := 0) rfl rfl [0, 1, 2, 3, 4, 5] [] (wr := []) (st := []) rfl rfl (by decide) (rr_V B (c_X8_daysBy l D cI cZ a_t a_best a_gives a_may a_sums a_voyage b_lucky b_worths b_ranks b_pad b_bears b_due b_borneBy b_gone b_sunk b_times b_whoBore b_holds b_refused b_image b_isKept f_best f_gives f_may f_sums f_voyage x_t_signs x_t_day x_t_reason x_t_asked 31 hq_15) gX8_voyages_X8_daysBy rfl rfl rfl (N := 1) rfl (by decide +kernel) ⟨Nat.le_of_ble_eq_true rfl, Nat.le_of_ble_eq_true rfl⟩ rfl dX8_voyages_15 0 rfl rfl (Nat.le_of_ble_eq_true rfl) ⟨Nat.le_of_ble_eq_true rfl, Nat.le_of_ble_eq_true rfl⟩) (ws' := [(a_t, .inr (8, [.ref a_may, .ref a_voyage, .ref b_lucky, .ref b_worths, .ref b_ranks, .int x_t_signs, .ref b_pad, .int x_t_day, .int x_t_reason, .ref b_bears, .ref b_due, .ref b_borneBy, .ref b_gone, .ref b_sunk, .ref b_times, .int x_t_asked, .ref b_whoBore, .ref a_gives, .ref a_best, .ref b_holds, .ref b_refused, .ref a_sums, .ref b_image, .ref b_isKept])), (a_best, .inl (cI, 6, .inl q_15.2.1)), (a_gives, .inl (cI, 6, .inl q_15.2.2.1)), (a_may, .inl (cI, 6, .inl f_may)), (a_sums, .inl (cI, 5, .inl q_15.2.2.2)), (a_voyage, .inl (cI, 6, .inl f_voyage))]) rfl ?_
    refine ww_istore_n B dX8_voyages_18 (lv' := [(2, .int q_15.1), (0, .ref a_t), (1, .int v1)]) (by decide) rfl ?_
    refine ww_iload_n B dX8_voyages_19 0 rfl ?_
    refine ww_ldc B (v := 1000000) (by decide +kernel) dX8_voyages_20 ?_
    refine ww_icmp_ne B 30 dX8_voyages_22 (by decide) (fun c_22 => ?_) (fun c_22 => ?_)
    · replace h := og_f c_22 h
      refine ww_iload_n B dX8_voyages_30 2 rfl ?_
      refine ww_iconst B dX8_voyages_31 (v := (-1)) (by decide) ?_
      refine ww_icmp_ne B 39 dX8_voyages_32 (by decide) (fun c_32 => ?_) (fun c_32 => ?_)
      · replace h := og_f c_32 h
        refine ww_aload_n B dX8_voyages_39 1 rfl ?_
        refine ww_get (ci := 8) (T := TX8) (C := RX8) (N := 24) B iX8 0 rfl rfl 18 (by decide) (by decide +kernel) rfl rfl dX8_voyages_40 ?_
        refine ww_iload_n B dX8_voyages_43 2 rfl ?_
        obtain ⟨i_44, h⟩ := og_i h
        refine ww_iald B 1 rfl i_44 dX8_voyages_44 ?_
        exact ww_iret B hA hQ hr dX8_voyages_45 (q_15.2.1, q_15.2.2.1, q_15.2.2.2) [0, 1, 2, 3, 4, 5] rfl (by decide) (og_p h)
      · replace h := og_t c_32 h
        refine ww_iload_n B dX8_voyages_35 0 rfl ?_
        refine ww_goto B 45 dX8_voyages_36 (by decide) ?_
        exact ww_iret B hA hQ hr dX8_voyages_45 (q_15.2.1, q_15.2.2.1, q_15.2.2.2) [0, 1, 2, 3, 4, 5] rfl (by decide) (og_p h)
    · replace h := og_t c_22 h
      refine ww_bipush B dX8_voyages_25 (v := (-6)) (by decide) ?_
      refine ww_goto B 45 dX8_voyages_27 (by decide) ?_
      exact ww_iret B hA hQ hr dX8_voyages_45 (q_15.2.1, q_15.2.2.1, q_15.2.2.2) [0, 1, 2, 3, 4, 5] rfl (by decide) (og_p h)
  · replace h := og_t c_6 h
    refine ww_bipush B dX8_voyages_9 (v := (-2)) (by decide) ?_
    exact ww_iret B hA hQ hr dX8_voyages_11 (f_best, f_gives, f_sums) [0, 1, 2, 3, 4, 5] rfl (by decide) (og_p h)
noncomputable def m_X8_who (f_may : (Nat → Int32)) (f_pad : (Nat → Int32)) (x_t_signs : Int32) (f_bears : (Nat → Int32)) (f_borneBy : (Nat → Int32)) (f_due : (Nat → Int32)) (f_gone : (Nat → Int32)) (f_sunk : (Nat → Int32)) (f_times : (Nat → Int32)) (f_whoBore : (Nat → Int32)) (x_t_asked : Int32) (x_t_day : Int32) (x_t_reason : Int32) (v1 : Int32) (v2 : Int32) : Option (Int32 × ((Nat → Int32) × (Nat → Int32) × (Nat → Int32) × (Nat → Int32) × (Nat → Int32) × (Nat → Int32) × (Nat → Int32) × Int32 × Int32 × Int32)) := ogb (m_X8_isName v1) (fun q_1 => if q_1 = 0 then (some ((-1), (f_bears, f_borneBy, f_due, f_gone, f_sunk, f_times, f_whoBore, x_t_asked, x_t_day, x_t_reason))) else (if 0 ≤ v2 then (ogb (m_X8_faultOf f_pad x_t_signs) (fun q_14 => if q_14 < 0 then (ogb (m_X8_lastDay f_pad x_t_signs) (fun q_25 => if v2 ≤ q_25 then (ogb (m_X8_opens f_pad x_t_signs) (fun q_39 => if 0 < q_39 then (some ((-3), (f_bears, f_borneBy, f_due, f_gone, f_sunk, f_times, f_whoBore, v2, x_t_day, x_t_reason))) else (ogb (m_X8_goLog f_may f_pad x_t_signs v2 f_bears f_borneBy f_due f_gone f_sunk f_times f_whoBore x_t_day x_t_reason 0) (fun q_47 => if q_47.1 < 0 then (ogi v1 5 (some ((q_47.2.2.2.2.2.2.2.1 (Int32.toNatClampNeg v1)), (q_47.2.1, q_47.2.2.1, q_47.2.2.2.1, q_47.2.2.2.2.1, q_47.2.2.2.2.2.1, q_47.2.2.2.2.2.2.1, q_47.2.2.2.2.2.2.2.1, v2, q_47.2.2.2.2.2.2.2.2.1, q_47.2.2.2.2.2.2.2.2.2)))) else (some ((-3), (q_47.2.1, q_47.2.2.1, q_47.2.2.2.1, q_47.2.2.2.2.1, q_47.2.2.2.2.2.1, q_47.2.2.2.2.2.2.1, q_47.2.2.2.2.2.2.2.1, v2, q_47.2.2.2.2.2.2.2.2.1, q_47.2.2.2.2.2.2.2.2.2))))))) else (some ((-1), (f_bears, f_borneBy, f_due, f_gone, f_sunk, f_times, f_whoBore, x_t_asked, x_t_day, x_t_reason))))) else (some ((-5), (f_bears, f_borneBy, f_due, f_gone, f_sunk, f_times, f_whoBore, x_t_asked, x_t_day, x_t_reason))))) else (some ((-1), (f_bears, f_borneBy, f_due, f_gone, f_sunk, f_times, f_whoBore, x_t_asked, x_t_day, x_t_reason)))))
set_option maxHeartbeats 4000000 in
set_option maxRecDepth 100000 in
theorem c_X8_who (l : Launch) (D : va_G) (cI cZ : ClassId) (a_t a_bears a_borneBy a_due a_gone a_may a_pad a_sunk a_times a_whoBore b_voyage b_lucky b_worths b_ranks b_gives b_best b_holds b_refused b_sums b_image b_isKept : Nat) (f_bears : (Nat → Int32)) (f_borneBy : (Nat → Int32)) (f_due : (Nat → Int32)) (f_gone : (Nat → Int32)) (f_may : (Nat → Int32)) (f_pad : (Nat → Int32)) (f_sunk : (Nat → Int32)) (f_times : (Nat → Int32)) (f_whoBore : (Nat → Int32)) (x_t_signs : Int32) (x_t_day : Int32) (x_t_reason : Int32) (x_t_asked : Int32) (v1 : Int32) (v2 : Int32) {res : (Int32 × ((Nat → Int32) × (Nat → Int32) × (Nat → Int32) × (Nat → Int32) × (Nat → Int32) × (Nat → Int32) × (Nat → Int32) × Int32 × Int32 × Int32))} (h : m_X8_who f_may f_pad x_t_signs f_bears f_borneBy f_due f_gone f_sunk f_times f_whoBore x_t_asked x_t_day x_t_reason v1 v2 = some res) : CT l yX8_who wsX8_who ({ frames := 3, cells := 0, slots := 0, locals := 70 } : Room) D cI cZ [.ref a_t, .int v1, .int v2] [(a_t, .inr (8, [.ref a_may, .ref b_voyage, .ref b_lucky, .ref b_worths, .ref b_ranks, .int x_t_signs, .ref a_pad, .int x_t_day, .int x_t_reason, .ref a_bears, .ref a_due, .ref a_borneBy, .ref a_gone, .ref a_sunk, .ref a_times, .int x_t_asked, .ref a_whoBore, .ref b_gives, .ref b_best, .ref b_holds, .ref b_refused, .ref b_sums, .ref b_image, .ref b_isKept])), (a_bears, .inl (cI, 6, .inl f_bears)), (a_borneBy, .inl (cI, 5, .inl f_borneBy)), (a_due, .inl (cI, 5, .inl f_due)), (a_gone, .inl (cZ, 5, .inl f_gone)), (a_may, .inl (cI, 6, .inl f_may)), (a_pad, .inl (cI, 48, .inl f_pad)), (a_sunk, .inl (cZ, 6, .inl f_sunk)), (a_times, .inl (cI, 5, .inl f_times)), (a_whoBore, .inl (cI, 5, .inl f_whoBore))] (QI D [(a_t, .inr (8, [.ref a_may, .ref b_voyage, .ref b_lucky, .ref b_worths, .ref b_ranks, .int x_t_signs, .ref a_pad, .int x_t_day, .int x_t_reason, .ref a_bears, .ref a_due, .ref a_borneBy, .ref a_gone, .ref a_sunk, .ref a_times, .int x_t_asked, .ref a_whoBore, .ref b_gives, .ref b_best, .ref b_holds, .ref b_refused, .ref b_sums, .ref b_image, .ref b_isKept])), (a_bears, .inl (cI, 6, .inl f_bears)), (a_borneBy, .inl (cI, 5, .inl f_borneBy)), (a_due, .inl (cI, 5, .inl f_due)), (a_gone, .inl (cZ, 5, .inl f_gone)), (a_may, .inl (cI, 6, .inl f_may)), (a_pad, .inl (cI, 48, .inl f_pad)), (a_sunk, .inl (cZ, 6, .inl f_sunk)), (a_times, .inl (cI, 5, .inl f_times)), (a_whoBore, .inl (cI, 5, .inl f_whoBore))] (fun (r : Int32) (u : (Nat → Int32) × (Nat → Int32) × (Nat → Int32) × (Nat → Int32) × (Nat → Int32) × (Nat → Int32) × (Nat → Int32) × Int32 × Int32 × Int32) => r = res.1 ∧ u = res.2) (fun (u : (Nat → Int32) × (Nat → Int32) × (Nat → Int32) × (Nat → Int32) × (Nat → Int32) × (Nat → Int32) × (Nat → Int32) × Int32 × Int32 × Int32) => [(a_t, .inr (8, [.ref a_may, .ref b_voyage, .ref b_lucky, .ref b_worths, .ref b_ranks, .int x_t_signs, .ref a_pad, .int u.2.2.2.2.2.2.2.2.1, .int u.2.2.2.2.2.2.2.2.2, .ref a_bears, .ref a_due, .ref a_borneBy, .ref a_gone, .ref a_sunk, .ref a_times, .int u.2.2.2.2.2.2.2.1, .ref a_whoBore, .ref b_gives, .ref b_best, .ref b_holds, .ref b_refused, .ref b_sums, .ref b_image, .ref b_isKept])), (a_bears, .inl (cI, 6, .inl u.1)), (a_borneBy, .inl (cI, 5, .inl u.2.1)), (a_due, .inl (cI, 5, .inl u.2.2.1)), (a_gone, .inl (cZ, 5, .inl u.2.2.2.1)), (a_may, .inl (cI, 6, .inl f_may)), (a_pad, .inl (cI, 48, .inl f_pad)), (a_sunk, .inl (cZ, 6, .inl u.2.2.2.2.1)), (a_times, .inl (cI, 5, .inl u.2.2.2.2.2.1)), (a_whoBore, .inl (cI, 5, .inl u.2.2.2.2.2.2.1))])) 0 0 := by
  have h : (ogb (m_X8_isName v1) (fun q_1 => if q_1 = 0 then (some ((-1), (f_bears, f_borneBy, f_due, f_gone, f_sunk, f_times, f_whoBore, x_t_asked, x_t_day, x_t_reason))) else (if 0 ≤ v2 then (ogb (m_X8_faultOf f_pad x_t_signs) (fun q_14 => if q_14 < 0 then (ogb (m_X8_lastDay f_pad x_t_signs) (fun q_25 => if v2 ≤ q_25 then (ogb (m_X8_opens f_pad x_t_signs) (fun q_39 => if 0 < q_39 then (some ((-3), (f_bears, f_borneBy, f_due, f_gone, f_sunk, f_times, f_whoBore, v2, x_t_day, x_t_reason))) else (ogb (m_X8_goLog f_may f_pad x_t_signs v2 f_bears f_borneBy f_due f_gone f_sunk f_times f_whoBore x_t_day x_t_reason 0) (fun q_47 => if q_47.1 < 0 then (ogi v1 5 (some ((q_47.2.2.2.2.2.2.2.1 (Int32.toNatClampNeg v1)), (q_47.2.1, q_47.2.2.1, q_47.2.2.2.1, q_47.2.2.2.2.1, q_47.2.2.2.2.2.1, q_47.2.2.2.2.2.2.1, q_47.2.2.2.2.2.2.2.1, v2, q_47.2.2.2.2.2.2.2.2.1, q_47.2.2.2.2.2.2.2.2.2)))) else (some ((-3), (q_47.2.1, q_47.2.2.1, q_47.2.2.2.1, q_47.2.2.2.2.1, q_47.2.2.2.2.2.1, q_47.2.2.2.2.2.2.1, q_47.2.2.2.2.2.2.2.1, v2, q_47.2.2.2.2.2.2.2.2.1, q_47.2.2.2.2.2.2.2.2.2))))))) else (some ((-1), (f_bears, f_borneBy, f_due, f_gone, f_sunk, f_times, f_whoBore, x_t_asked, x_t_day, x_t_reason))))) else (some ((-5), (f_bears, f_borneBy, f_due, f_gone, f_sunk, f_times, f_whoBore, x_t_asked, x_t_day, x_t_reason))))) else (some ((-1), (f_bears, f_borneBy, f_due, f_gone, f_sunk, f_times, f_whoBore, x_t_asked, x_t_day, x_t_reason))))) : Option (Int32 × ((Nat → Int32) × (Nat → Int32) × (Nat → Int32) × (Nat → Int32) × (Nat → Int32) × (Nat → Int32) × (Nat → Int32) × Int32 × Int32 × Int32))) = some res := h
  refine ct_entry (cc := cX8_who) (nl := 3) (ret := (some .int)) (own := RX8) (lv0 := [(0, .ref a_t), (1, .int v1), (2, .int v2)]) (by decide) rfl rfl (Nat.le_of_ble_eq_true rfl) rfl ?_
  intro p e s m args below meth c A Q hA hQ hr hnm B
  have iX8 : ∀ w ∈ wsX80, w ∈ wsX8_who := by decide +kernel
  refine ww_iload_n B dX8_who_0 1 rfl ?_
  obtain ⟨q_1, hq_1, h⟩ := og_b h
  refine ww_ci0 B (k' := 0) (n' := 0) rfl rfl [] [0, 1, 2, 3, 4, 5, 6, 7, 8, 9] (wr := [(a_t, .inr (8, [.ref a_may, .ref b_voyage, .ref b_lucky, .ref b_worths, .ref b_ranks, .int x_t_signs, .ref a_pad, .int x_t_day, .int x_t_reason, .ref a_bears, .ref a_due, .ref a_borneBy, .ref a_gone, .ref a_sunk, .ref a_times, .int x_t_asked, .ref a_whoBore, .ref b_gives, .ref b_best, .ref b_holds, .ref b_refused, .ref b_sums, .ref b_image, .ref b_isKept])), (a_bears, .inl (cI, 6, .inl f_bears)), (a_borneBy, .inl (cI, 5, .inl f_borneBy)), (a_due, .inl (cI, 5, .inl f_due)), (a_gone, .inl (cZ, 5, .inl f_gone)), (a_may, .inl (cI, 6, .inl f_may)), (a_pad, .inl (cI, 48, .inl f_pad)), (a_sunk, .inl (cZ, 6, .inl f_sunk)), (a_times, .inl (cI, 5, .inl f_times)), (a_whoBore, .inl (cI, 5, .inl f_whoBore))]) (st := []) rfl rfl (by decide) (rr_S B (c_X8_isName l D cI cZ v1 hq_1) gX8_who_X8_isName rfl rfl rfl (N := 1) rfl (by decide +kernel) ⟨Nat.le_of_ble_eq_true rfl, Nat.le_of_ble_eq_true rfl⟩ rfl dX8_who_1 (Nat.le_of_ble_eq_true rfl) ⟨Nat.le_of_ble_eq_true rfl, Nat.le_of_ble_eq_true rfl⟩) (ws' := [(a_t, .inr (8, [.ref a_may, .ref b_voyage, .ref b_lucky, .ref b_worths, .ref b_ranks, .int x_t_signs, .ref a_pad, .int x_t_day, .int x_t_reason, .ref a_bears, .ref a_due, .ref a_borneBy, .ref a_gone, .ref a_sunk, .ref a_times, .int x_t_asked, .ref a_whoBore, .ref b_gives, .ref b_best, .ref b_holds, .ref b_refused, .ref b_sums, .ref b_image, .ref b_isKept])), (a_bears, .inl (cI, 6, .inl f_bears)), (a_borneBy, .inl (cI, 5, .inl f_borneBy)), (a_due, .inl (cI, 5, .inl f_due)), (a_gone, .inl (cZ, 5, .inl f_gone)), (a_may, .inl (cI, 6, .inl f_may)), (a_pad, .inl (cI, 48, .inl f_pad)), (a_sunk, .inl (cZ, 6, .inl f_sunk)), (a_times, .inl (cI, 5, .inl f_times)), (a_whoBore, .inl (cI, 5, .inl f_whoBore))]) rfl ?_
  refine ww_if_eq B 11 dX8_who_4 (by decide) (fun c_4 => ?_) (fun c_4 => ?_)
  · replace h := og_t c_4 h
    refine ww_iconst B dX8_who_11 (v := (-1)) (by decide) ?_
    exact ww_iret B hA hQ hr dX8_who_12 (f_bears, f_borneBy, f_due, f_gone, f_sunk, f_times, f_whoBore, x_t_asked, x_t_day, x_t_reason) [0, 1, 2, 3, 4, 5, 6, 7, 8, 9] rfl (by decide) (og_p h)
  · replace h := og_f c_4 h
    refine ww_iload_n B dX8_who_7 2 rfl ?_
    refine ww_if_ge B 13 dX8_who_8 (by decide) (fun c_8 => ?_) (fun c_8 => ?_)
    · replace h := og_t c_8 h
      refine ww_aload_n B dX8_who_13 0 rfl ?_
      obtain ⟨q_14, hq_14, h⟩ := og_b h
      refine ww_ci0 B (k' := 0) (n' := 0) rfl rfl [0, 6] [1, 2, 3, 4, 5, 7, 8, 9] (wr := [(a_bears, .inl (cI, 6, .inl f_bears)), (a_borneBy, .inl (cI, 5, .inl f_borneBy)), (a_due, .inl (cI, 5, .inl f_due)), (a_gone, .inl (cZ, 5, .inl f_gone)), (a_may, .inl (cI, 6, .inl f_may)), (a_sunk, .inl (cZ, 6, .inl f_sunk)), (a_times, .inl (cI, 5, .inl f_times)), (a_whoBore, .inl (cI, 5, .inl f_whoBore))]) (st := []) rfl rfl (by decide) (rr_V B (c_X8_faultOf l D cI cZ a_t a_pad a_may b_voyage b_lucky b_worths b_ranks a_bears a_due a_borneBy a_gone a_sunk a_times a_whoBore b_gives b_best b_holds b_refused b_sums b_image b_isKept f_pad x_t_signs x_t_day x_t_reason x_t_asked hq_14) gX8_who_X8_faultOf rfl rfl rfl (N := 0) rfl (by decide +kernel) ⟨Nat.le_of_ble_eq_true rfl, Nat.le_of_ble_eq_true rfl⟩ rfl dX8_who_14 0 rfl rfl (Nat.le_of_ble_eq_true rfl) ⟨Nat.le_of_ble_eq_true rfl, Nat.le_of_ble_eq_true rfl⟩) (ws' := [(a_bears, .inl (cI, 6, .inl f_bears)), (a_borneBy, .inl (cI, 5, .inl f_borneBy)), (a_due, .inl (cI, 5, .inl f_due)), (a_gone, .inl (cZ, 5, .inl f_gone)), (a_may, .inl (cI, 6, .inl f_may)), (a_sunk, .inl (cZ, 6, .inl f_sunk)), (a_times, .inl (cI, 5, .inl f_times)), (a_whoBore, .inl (cI, 5, .inl f_whoBore)), (a_t, .inr (8, [.ref a_may, .ref b_voyage, .ref b_lucky, .ref b_worths, .ref b_ranks, .int x_t_signs, .ref a_pad, .int x_t_day, .int x_t_reason, .ref a_bears, .ref a_due, .ref a_borneBy, .ref a_gone, .ref a_sunk, .ref a_times, .int x_t_asked, .ref a_whoBore, .ref b_gives, .ref b_best, .ref b_holds, .ref b_refused, .ref b_sums, .ref b_image, .ref b_isKept])), (a_pad, .inl (cI, 48, .inl f_pad))]) rfl ?_
      refine ww_if_lt B 23 dX8_who_17 (by decide) (fun c_17 => ?_) (fun c_17 => ?_)
      · replace h := og_t c_17 h
        refine ww_iload_n B dX8_who_23 2 rfl ?_
        refine ww_aload_n B dX8_who_24 0 rfl ?_
        obtain ⟨q_25, hq_25, h⟩ := og_b h
        refine ww_ci0 B (k' := 0) (n' := 0) rfl rfl [8, 9] [0, 1, 2, 3, 4, 5, 6, 7] (wr := [(a_bears, .inl (cI, 6, .inl f_bears)), (a_borneBy, .inl (cI, 5, .inl f_borneBy)), (a_due, .inl (cI, 5, .inl f_due)), (a_gone, .inl (cZ, 5, .inl f_gone)), (a_may, .inl (cI, 6, .inl f_may)), (a_sunk, .inl (cZ, 6, .inl f_sunk)), (a_times, .inl (cI, 5, .inl f_times)), (a_whoBore, .inl (cI, 5, .inl f_whoBore))]) (st := [.int v2]) rfl rfl (by decide) (rr_V B (c_X8_lastDay l D cI cZ a_t a_pad a_may b_voyage b_lucky b_worths b_ranks a_bears a_due a_borneBy a_gone a_sunk a_times a_whoBore b_gives b_best b_holds b_refused b_sums b_image b_isKept f_pad x_t_signs x_t_day x_t_reason x_t_asked hq_25) gX8_who_X8_lastDay rfl rfl rfl (N := 0) rfl (by decide +kernel) ⟨Nat.le_of_ble_eq_true rfl, Nat.le_of_ble_eq_true rfl⟩ rfl dX8_who_25 0 rfl rfl (Nat.le_of_ble_eq_true rfl) ⟨Nat.le_of_ble_eq_true rfl, Nat.le_of_ble_eq_true rfl⟩) (ws' := [(a_bears, .inl (cI, 6, .inl f_bears)), (a_borneBy, .inl (cI, 5, .inl f_borneBy)), (a_due, .inl (cI, 5, .inl f_due)), (a_gone, .inl (cZ, 5, .inl f_gone)), (a_may, .inl (cI, 6, .inl f_may)), (a_sunk, .inl (cZ, 6, .inl f_sunk)), (a_times, .inl (cI, 5, .inl f_times)), (a_whoBore, .inl (cI, 5, .inl f_whoBore)), (a_t, .inr (8, [.ref a_may, .ref b_voyage, .ref b_lucky, .ref b_worths, .ref b_ranks, .int x_t_signs, .ref a_pad, .int x_t_day, .int x_t_reason, .ref a_bears, .ref a_due, .ref a_borneBy, .ref a_gone, .ref a_sunk, .ref a_times, .int x_t_asked, .ref a_whoBore, .ref b_gives, .ref b_best, .ref b_holds, .ref b_refused, .ref b_sums, .ref b_image, .ref b_isKept])), (a_pad, .inl (cI, 48, .inl f_pad))]) rfl ?_
        refine ww_icmp_le B 33 dX8_who_28 (by decide) (fun c_28 => ?_) (fun c_28 => ?_)
        · replace h := og_t c_28 h
          refine ww_aload_n B dX8_who_33 0 rfl ?_
          refine ww_iload_n B dX8_who_34 2 rfl ?_
          refine ww_put (ci := 8) (T := TX8) (C := RX8) (N := 24) (ty := .int) B iX8 tyX8 tyX8_ok nmX8 8 rfl rfl 15 (by decide) (by decide +kernel) rfl rfl (by decide +kernel) rfl rfl (Nat.le_of_ble_eq_true rfl) dX8_who_35 (ws' := [(a_bears, .inl (cI, 6, .inl f_bears)), (a_borneBy, .inl (cI, 5, .inl f_borneBy)), (a_due, .inl (cI, 5, .inl f_due)), (a_gone, .inl (cZ, 5, .inl f_gone)), (a_may, .inl (cI, 6, .inl f_may)), (a_sunk, .inl (cZ, 6, .inl f_sunk)), (a_times, .inl (cI, 5, .inl f_times)), (a_whoBore, .inl (cI, 5, .inl f_whoBore)), (a_t, .inr (8, [.ref a_may, .ref b_voyage, .ref b_lucky, .ref b_worths, .ref b_ranks, .int x_t_signs, .ref a_pad, .int x_t_day, .int x_t_reason, .ref a_bears, .ref a_due, .ref a_borneBy, .ref a_gone, .ref a_sunk, .ref a_times, .int v2, .ref a_whoBore, .ref b_gives, .ref b_best, .ref b_holds, .ref b_refused, .ref b_sums, .ref b_image, .ref b_isKept])), (a_pad, .inl (cI, 48, .inl f_pad))]) rfl ?_
          refine ww_aload_n B dX8_who_38 0 rfl ?_
          obtain ⟨q_39, hq_39, h⟩ := og_b h
          refine ww_ci0 B (k' := 0) (n' := 0) rfl rfl [8, 9] [0, 1, 2, 3, 4, 5, 6, 7] (wr := [(a_bears, .inl (cI, 6, .inl f_bears)), (a_borneBy, .inl (cI, 5, .inl f_borneBy)), (a_due, .inl (cI, 5, .inl f_due)), (a_gone, .inl (cZ, 5, .inl f_gone)), (a_may, .inl (cI, 6, .inl f_may)), (a_sunk, .inl (cZ, 6, .inl f_sunk)), (a_times, .inl (cI, 5, .inl f_times)), (a_whoBore, .inl (cI, 5, .inl f_whoBore))]) (st := []) rfl rfl (by decide) (rr_V B (c_X8_opens l D cI cZ a_t a_pad a_may b_voyage b_lucky b_worths b_ranks a_bears a_due a_borneBy a_gone a_sunk a_times a_whoBore b_gives b_best b_holds b_refused b_sums b_image b_isKept f_pad x_t_signs x_t_day x_t_reason v2 hq_39) gX8_who_X8_opens rfl rfl rfl (N := 0) rfl (by decide +kernel) ⟨Nat.le_of_ble_eq_true rfl, Nat.le_of_ble_eq_true rfl⟩ rfl dX8_who_39 0 rfl rfl (Nat.le_of_ble_eq_true rfl) ⟨Nat.le_of_ble_eq_true rfl, Nat.le_of_ble_eq_true rfl⟩) (ws' := [(a_bears, .inl (cI, 6, .inl f_bears)), (a_borneBy, .inl (cI, 5, .inl f_borneBy)), (a_due, .inl (cI, 5, .inl f_due)), (a_gone, .inl (cZ, 5, .inl f_gone)), (a_may, .inl (cI, 6, .inl f_may)), (a_sunk, .inl (cZ, 6, .inl f_sunk)), (a_times, .inl (cI, 5, .inl f_times)), (a_whoBore, .inl (cI, 5, .inl f_whoBore)), (a_t, .inr (8, [.ref a_may, .ref b_voyage, .ref b_lucky, .ref b_worths, .ref b_ranks, .int x_t_signs, .ref a_pad, .int x_t_day, .int x_t_reason, .ref a_bears, .ref a_due, .ref a_borneBy, .ref a_gone, .ref a_sunk, .ref a_times, .int v2, .ref a_whoBore, .ref b_gives, .ref b_best, .ref b_holds, .ref b_refused, .ref b_sums, .ref b_image, .ref b_isKept])), (a_pad, .inl (cI, 48, .inl f_pad))]) rfl ?_
          refine ww_if_gt B 53 dX8_who_42 (by decide) (fun c_42 => ?_) (fun c_42 => ?_)
          · replace h := og_t c_42 h
            refine ww_bipush B dX8_who_53 (v := (-3)) (by decide) ?_
            exact ww_iret B hA hQ hr dX8_who_55 (f_bears, f_borneBy, f_due, f_gone, f_sunk, f_times, f_whoBore, v2, x_t_day, x_t_reason) [8, 0, 1, 2, 3, 4, 9, 5, 6, 7] rfl (by decide) (og_p h)
          · replace h := og_f c_42 h
            refine ww_aload_n B dX8_who_45 0 rfl ?_
            refine ww_iconst B dX8_who_46 (v := 0) (by decide) ?_
            obtain ⟨q_47, hq_47, h⟩ := og_b h
            refine ww_ciM B (k' := 0) (n' := 0) rfl rfl [8, 0, 1, 2, 3, 4, 9, 5, 6, 7] [] (wr := []) (st := []) rfl rfl (by decide) (rr_V B (c_X8_goLog l D cI cZ a_t a_bears a_borneBy a_due a_gone a_may a_pad a_sunk a_times a_whoBore b_voyage b_lucky b_worths b_ranks b_gives b_best b_holds b_refused b_sums b_image b_isKept f_bears f_borneBy f_due f_gone f_may f_pad f_sunk f_times f_whoBore x_t_signs x_t_day x_t_reason v2 0 hq_47) gX8_who_X8_goLog rfl rfl rfl (N := 1) rfl (by decide +kernel) ⟨Nat.le_of_ble_eq_true rfl, Nat.le_of_ble_eq_true rfl⟩ rfl dX8_who_47 0 rfl rfl (Nat.le_of_ble_eq_true rfl) ⟨Nat.le_of_ble_eq_true rfl, Nat.le_of_ble_eq_true rfl⟩) (ws' := [(a_t, .inr (8, [.ref a_may, .ref b_voyage, .ref b_lucky, .ref b_worths, .ref b_ranks, .int x_t_signs, .ref a_pad, .int q_47.2.2.2.2.2.2.2.2.1, .int q_47.2.2.2.2.2.2.2.2.2, .ref a_bears, .ref a_due, .ref a_borneBy, .ref a_gone, .ref a_sunk, .ref a_times, .int v2, .ref a_whoBore, .ref b_gives, .ref b_best, .ref b_holds, .ref b_refused, .ref b_sums, .ref b_image, .ref b_isKept])), (a_bears, .inl (cI, 6, .inl q_47.2.1)), (a_borneBy, .inl (cI, 5, .inl q_47.2.2.1)), (a_due, .inl (cI, 5, .inl q_47.2.2.2.1)), (a_gone, .inl (cZ, 5, .inl q_47.2.2.2.2.1)), (a_may, .inl (cI, 6, .inl f_may)), (a_pad, .inl (cI, 48, .inl f_pad)), (a_sunk, .inl (cZ, 6, .inl q_47.2.2.2.2.2.1)), (a_times, .inl (cI, 5, .inl q_47.2.2.2.2.2.2.1)), (a_whoBore, .inl (cI, 5, .inl q_47.2.2.2.2.2.2.2.1))]) rfl ?_
            refine ww_if_lt B 56 dX8_who_50 (by decide) (fun c_50 => ?_) (fun c_50 => ?_)
            · replace h := og_t c_50 h
              refine ww_aload_n B dX8_who_56 0 rfl ?_
              refine ww_get (ci := 8) (T := TX8) (C := RX8) (N := 24) B iX8 0 rfl rfl 16 (by decide) (by decide +kernel) rfl rfl dX8_who_57 ?_
              refine ww_iload_n B dX8_who_60 1 rfl ?_
              obtain ⟨i_61, h⟩ := og_i h
              refine ww_iald B 9 rfl i_61 dX8_who_61 ?_
              exact ww_iret B hA hQ hr dX8_who_62 (q_47.2.1, q_47.2.2.1, q_47.2.2.2.1, q_47.2.2.2.2.1, q_47.2.2.2.2.2.1, q_47.2.2.2.2.2.2.1, q_47.2.2.2.2.2.2.2.1, v2, q_47.2.2.2.2.2.2.2.2.1, q_47.2.2.2.2.2.2.2.2.2) [0, 1, 2, 3, 4, 5, 6, 7, 8, 9] rfl (by decide) (og_p h)
            · replace h := og_f c_50 h
              refine ww_bipush B dX8_who_53 (v := (-3)) (by decide) ?_
              exact ww_iret B hA hQ hr dX8_who_55 (q_47.2.1, q_47.2.2.1, q_47.2.2.2.1, q_47.2.2.2.2.1, q_47.2.2.2.2.2.1, q_47.2.2.2.2.2.2.1, q_47.2.2.2.2.2.2.2.1, v2, q_47.2.2.2.2.2.2.2.2.1, q_47.2.2.2.2.2.2.2.2.2) [0, 1, 2, 3, 4, 5, 6, 7, 8, 9] rfl (by decide) (og_p h)
        · replace h := og_f c_28 h
          refine ww_iconst B dX8_who_31 (v := (-1)) (by decide) ?_
          exact ww_iret B hA hQ hr dX8_who_32 (f_bears, f_borneBy, f_due, f_gone, f_sunk, f_times, f_whoBore, x_t_asked, x_t_day, x_t_reason) [8, 0, 1, 2, 3, 4, 9, 5, 6, 7] rfl (by decide) (og_p h)
      · replace h := og_f c_17 h
        refine ww_bipush B dX8_who_20 (v := (-5)) (by decide) ?_
        exact ww_iret B hA hQ hr dX8_who_22 (f_bears, f_borneBy, f_due, f_gone, f_sunk, f_times, f_whoBore, x_t_asked, x_t_day, x_t_reason) [8, 0, 1, 2, 3, 4, 9, 5, 6, 7] rfl (by decide) (og_p h)
    · replace h := og_f c_8 h
      refine ww_iconst B dX8_who_11 (v := (-1)) (by decide) ?_
      exact ww_iret B hA hQ hr dX8_who_12 (f_bears, f_borneBy, f_due, f_gone, f_sunk, f_times, f_whoBore, x_t_asked, x_t_day, x_t_reason) [0, 1, 2, 3, 4, 5, 6, 7, 8, 9] rfl (by decide) (og_p h)
noncomputable def m_X8_winter_307 (k281 : Int32 → Int32 → Int32 → Int32 → Int32 → (Nat → Int32) → (Nat → Int32) → (Nat → Int32) → (Nat → Int32) → (Nat → Int32) → (Nat → Int32) → (Nat → Int32) → Int32 → Int32 → Int32 → Option (Int32 × ((Nat → Int32) × (Nat → Int32) × (Nat → Int32) × (Nat → Int32) × (Nat → Int32) × (Nat → Int32) × (Nat → Int32) × Int32 × Int32 × Int32))) (f_lucky : (Nat → Int32)) (f_may : (Nat → Int32)) (f_voyage : (Nat → Int32)) (v3 : Int32) (v5 : Int32) (v7 : Int32) (v8 : Int32) (s0 : Int32) (s1 : Int32) (f_bears : (Nat → Int32)) (f_borneBy : (Nat → Int32)) (f_due : (Nat → Int32)) (f_gone : (Nat → Int32)) (f_sunk : (Nat → Int32)) (f_times : (Nat → Int32)) (f_whoBore : (Nat → Int32)) (x_t_asked : Int32) (x_t_day : Int32) (x_t_reason : Int32) : Option (Int32 × ((Nat → Int32) × (Nat → Int32) × (Nat → Int32) × (Nat → Int32) × (Nat → Int32) × (Nat → Int32) × (Nat → Int32) × Int32 × Int32 × Int32)) := ogl (s0 ||| s1) (fun (v6_308 : Int32) => ogi v8 5 (ogl (v7 + (f_times (Int32.toNatClampNeg v8))) (fun (v7_320 : Int32) => ogl (v8 + 1) (fun (v8_322 : Int32) => (k281 v3 v5 v6_308 v7_320 v8_322 f_bears f_borneBy f_due f_gone f_sunk f_times f_whoBore x_t_asked x_t_day x_t_reason)))))
noncomputable def m_X8_winter_281b (k281 : Int32 → Int32 → Int32 → Int32 → Int32 → (Nat → Int32) → (Nat → Int32) → (Nat → Int32) → (Nat → Int32) → (Nat → Int32) → (Nat → Int32) → (Nat → Int32) → Int32 → Int32 → Int32 → Option (Int32 × ((Nat → Int32) × (Nat → Int32) × (Nat → Int32) × (Nat → Int32) × (Nat → Int32) × (Nat → Int32) × (Nat → Int32) × Int32 × Int32 × Int32))) (f_lucky : (Nat → Int32)) (f_may : (Nat → Int32)) (f_voyage : (Nat → Int32)) (v3 : Int32) (v5 : Int32) (v6 : Int32) (v7 : Int32) (v8 : Int32) (f_bears : (Nat → Int32)) (f_borneBy : (Nat → Int32)) (f_due : (Nat → Int32)) (f_gone : (Nat → Int32)) (f_sunk : (Nat → Int32)) (f_times : (Nat → Int32)) (f_whoBore : (Nat → Int32)) (x_t_asked : Int32) (x_t_day : Int32) (x_t_reason : Int32) : Option (Int32 × ((Nat → Int32) × (Nat → Int32) × (Nat → Int32) × (Nat → Int32) × (Nat → Int32) × (Nat → Int32) × (Nat → Int32) × Int32 × Int32 × Int32)) := if 5 ≤ v8 then (if v3 = 0 then (some (v5, (f_bears, f_borneBy, f_due, f_gone, f_sunk, f_times, f_whoBore, x_t_asked, x_t_day, x_t_reason))) else (if v3 = 1 then (some (v6, (f_bears, f_borneBy, f_due, f_gone, f_sunk, f_times, f_whoBore, x_t_asked, x_t_day, x_t_reason))) else (some (v7, (f_bears, f_borneBy, f_due, f_gone, f_sunk, f_times, f_whoBore, x_t_asked, x_t_day, x_t_reason))))) else (ogi v8 5 (if (f_gone (Int32.toNatClampNeg v8)) = 0 then ((m_X8_winter_307 k281 f_lucky f_may f_voyage v3 v5 v7 v8 v6 0 f_bears f_borneBy f_due f_gone f_sunk f_times f_whoBore x_t_asked x_t_day x_t_reason)) else ((m_X8_winter_307 k281 f_lucky f_may f_voyage v3 v5 v7 v8 v6 ((1 : Int32) <<< ((v8 : Int32) &&& 31)) f_bears f_borneBy f_due f_gone f_sunk f_times f_whoBore x_t_asked x_t_day x_t_reason))))
noncomputable def m_X8_winter_281 (f_lucky : (Nat → Int32)) (f_may : (Nat → Int32)) (f_voyage : (Nat → Int32)) (fuel : Nat) : Int32 → Int32 → Int32 → Int32 → Int32 → (Nat → Int32) → (Nat → Int32) → (Nat → Int32) → (Nat → Int32) → (Nat → Int32) → (Nat → Int32) → (Nat → Int32) → Int32 → Int32 → Int32 → Option (Int32 × ((Nat → Int32) × (Nat → Int32) × (Nat → Int32) × (Nat → Int32) × (Nat → Int32) × (Nat → Int32) × (Nat → Int32) × Int32 × Int32 × Int32)) := Nat.rec (fun _ _ _ _ _ _ _ _ _ _ _ _ _ _ _ => none) (fun _ k281 => m_X8_winter_281b k281 f_lucky f_may f_voyage) fuel
noncomputable def m_X8_winter_269 (k245 : Int32 → Int32 → Int32 → Int32 → Int32 → (Nat → Int32) → (Nat → Int32) → (Nat → Int32) → (Nat → Int32) → (Nat → Int32) → (Nat → Int32) → (Nat → Int32) → Int32 → Int32 → Int32 → Option (Int32 × ((Nat → Int32) × (Nat → Int32) × (Nat → Int32) × (Nat → Int32) × (Nat → Int32) × (Nat → Int32) × (Nat → Int32) × Int32 × Int32 × Int32))) (f_lucky : (Nat → Int32)) (f_may : (Nat → Int32)) (f_voyage : (Nat → Int32)) (v3 : Int32) (v6 : Int32) (v7 : Int32) (v8 : Int32) (s0 : Int32) (s1 : Int32) (f_bears : (Nat → Int32)) (f_borneBy : (Nat → Int32)) (f_due : (Nat → Int32)) (f_gone : (Nat → Int32)) (f_sunk : (Nat → Int32)) (f_times : (Nat → Int32)) (f_whoBore : (Nat → Int32)) (x_t_asked : Int32) (x_t_day : Int32) (x_t_reason : Int32) : Option (Int32 × ((Nat → Int32) × (Nat → Int32) × (Nat → Int32) × (Nat → Int32) × (Nat → Int32) × (Nat → Int32) × (Nat → Int32) × Int32 × Int32 × Int32)) := ogl (s0 + s1) (fun (v5_270 : Int32) => ogl (v8 + 1) (fun (v8_272 : Int32) => (k245 v3 v5_270 v6 v7 v8_272 f_bears f_borneBy f_due f_gone f_sunk f_times f_whoBore x_t_asked x_t_day x_t_reason)))
noncomputable def m_X8_winter_245b (k245 : Int32 → Int32 → Int32 → Int32 → Int32 → (Nat → Int32) → (Nat → Int32) → (Nat → Int32) → (Nat → Int32) → (Nat → Int32) → (Nat → Int32) → (Nat → Int32) → Int32 → Int32 → Int32 → Option (Int32 × ((Nat → Int32) × (Nat → Int32) × (Nat → Int32) × (Nat → Int32) × (Nat → Int32) × (Nat → Int32) × (Nat → Int32) × Int32 × Int32 × Int32))) (f_lucky : (Nat → Int32)) (f_may : (Nat → Int32)) (f_voyage : (Nat → Int32)) (v3 : Int32) (v5 : Int32) (v6 : Int32) (v7 : Int32) (v8 : Int32) (f_bears : (Nat → Int32)) (f_borneBy : (Nat → Int32)) (f_due : (Nat → Int32)) (f_gone : (Nat → Int32)) (f_sunk : (Nat → Int32)) (f_times : (Nat → Int32)) (f_whoBore : (Nat → Int32)) (x_t_asked : Int32) (x_t_day : Int32) (x_t_reason : Int32) : Option (Int32 × ((Nat → Int32) × (Nat → Int32) × (Nat → Int32) × (Nat → Int32) × (Nat → Int32) × (Nat → Int32) × (Nat → Int32) × Int32 × Int32 × Int32)) := if 6 ≤ v8 then ((m_X8_winter_281 f_lucky f_may f_voyage 1000000 v3 v5 v6 v7 0 f_bears f_borneBy f_due f_gone f_sunk f_times f_whoBore x_t_asked x_t_day x_t_reason)) else (ogi v8 6 (if (f_sunk (Int32.toNatClampNeg v8)) = 0 then ((m_X8_winter_269 k245 f_lucky f_may f_voyage v3 v6 v7 v8 v5 0 f_bears f_borneBy f_due f_gone f_sunk f_times f_whoBore x_t_asked x_t_day x_t_reason)) else ((m_X8_winter_269 k245 f_lucky f_may f_voyage v3 v6 v7 v8 v5 1 f_bears f_borneBy f_due f_gone f_sunk f_times f_whoBore x_t_asked x_t_day x_t_reason))))
noncomputable def m_X8_winter_245 (f_lucky : (Nat → Int32)) (f_may : (Nat → Int32)) (f_voyage : (Nat → Int32)) (fuel : Nat) : Int32 → Int32 → Int32 → Int32 → Int32 → (Nat → Int32) → (Nat → Int32) → (Nat → Int32) → (Nat → Int32) → (Nat → Int32) → (Nat → Int32) → (Nat → Int32) → Int32 → Int32 → Int32 → Option (Int32 × ((Nat → Int32) × (Nat → Int32) × (Nat → Int32) × (Nat → Int32) × (Nat → Int32) × (Nat → Int32) × (Nat → Int32) × Int32 × Int32 × Int32)) := Nat.rec (fun _ _ _ _ _ _ _ _ _ _ _ _ _ _ _ => none) (fun _ k245 => m_X8_winter_245b k245 f_lucky f_may f_voyage) fuel
noncomputable def m_X8_winter_221 (k49 : Int32 → Int32 → Int32 → Int32 → (Nat → Int32) → (Nat → Int32) → (Nat → Int32) → (Nat → Int32) → (Nat → Int32) → (Nat → Int32) → (Nat → Int32) → Int32 → Int32 → Int32 → Option (Int32 × ((Nat → Int32) × (Nat → Int32) × (Nat → Int32) × (Nat → Int32) × (Nat → Int32) × (Nat → Int32) × (Nat → Int32) × Int32 × Int32 × Int32))) (k163 : Int32 → Int32 → Int32 → Int32 → Int32 → (Nat → Int32) → (Nat → Int32) → (Nat → Int32) → (Nat → Int32) → (Nat → Int32) → (Nat → Int32) → (Nat → Int32) → Int32 → Int32 → Int32 → Option (Int32 × ((Nat → Int32) × (Nat → Int32) × (Nat → Int32) × (Nat → Int32) × (Nat → Int32) × (Nat → Int32) × (Nat → Int32) × Int32 × Int32 × Int32))) (f_lucky : (Nat → Int32)) (f_may : (Nat → Int32)) (f_voyage : (Nat → Int32)) (v2 : Int32) (v3 : Int32) (v4 : Int32) (v5 : Int32) (v6 : Int32) (f_bears : (Nat → Int32)) (f_borneBy : (Nat → Int32)) (f_due : (Nat → Int32)) (f_gone : (Nat → Int32)) (f_sunk : (Nat → Int32)) (f_times : (Nat → Int32)) (f_whoBore : (Nat → Int32)) (x_t_asked : Int32) (x_t_day : Int32) (x_t_reason : Int32) : Option (Int32 × ((Nat → Int32) × (Nat → Int32) × (Nat → Int32) × (Nat → Int32) × (Nat → Int32) × (Nat → Int32) × (Nat → Int32) × Int32 × Int32 × Int32)) := ogl (v6 + 1) (fun (v6_221 : Int32) => (k163 v2 v3 v4 v5 v6_221 f_bears f_borneBy f_due f_gone f_sunk f_times f_whoBore x_t_asked x_t_day x_t_reason))
noncomputable def m_X8_winter_163b (k49 : Int32 → Int32 → Int32 → Int32 → (Nat → Int32) → (Nat → Int32) → (Nat → Int32) → (Nat → Int32) → (Nat → Int32) → (Nat → Int32) → (Nat → Int32) → Int32 → Int32 → Int32 → Option (Int32 × ((Nat → Int32) × (Nat → Int32) × (Nat → Int32) × (Nat → Int32) × (Nat → Int32) × (Nat → Int32) × (Nat → Int32) × Int32 × Int32 × Int32))) (k163 : Int32 → Int32 → Int32 → Int32 → Int32 → (Nat → Int32) → (Nat → Int32) → (Nat → Int32) → (Nat → Int32) → (Nat → Int32) → (Nat → Int32) → (Nat → Int32) → Int32 → Int32 → Int32 → Option (Int32 × ((Nat → Int32) × (Nat → Int32) × (Nat → Int32) × (Nat → Int32) × (Nat → Int32) × (Nat → Int32) × (Nat → Int32) × Int32 × Int32 × Int32))) (f_lucky : (Nat → Int32)) (f_may : (Nat → Int32)) (f_voyage : (Nat → Int32)) (v2 : Int32) (v3 : Int32) (v4 : Int32) (v5 : Int32) (v6 : Int32) (f_bears : (Nat → Int32)) (f_borneBy : (Nat → Int32)) (f_due : (Nat → Int32)) (f_gone : (Nat → Int32)) (f_sunk : (Nat → Int32)) (f_times : (Nat → Int32)) (f_whoBore : (Nat → Int32)) (x_t_asked : Int32) (x_t_day : Int32) (x_t_reason : Int32) : Option (Int32 × ((Nat → Int32) × (Nat → Int32) × (Nat → Int32) × (Nat → Int32) × (Nat → Int32) × (Nat → Int32) × (Nat → Int32) × Int32 × Int32 × Int32)) := if 6 ≤ v6 then (ogl (v5 + 1) (fun (v5_227 : Int32) => (k49 v2 v3 v4 v5_227 f_bears f_borneBy f_due f_gone f_sunk f_times f_whoBore x_t_asked x_t_day x_t_reason))) else (ogi v6 6 (ogl (f_bears (Int32.toNatClampNeg v6)) (fun (v7_177 : Int32) => if v7_177 < 0 then ((m_X8_winter_221 k49 k163 f_lucky f_may f_voyage v2 v3 v4 v5 v6 f_bears f_borneBy f_due f_gone f_sunk f_times f_whoBore x_t_asked x_t_day x_t_reason)) else (ogl (((75 * v4) + 74) - ((75 * v4) + 74) / 65537 * 65537) (fun (v4_195 : Int32) => ogi v7_177 5 (if (10 - (f_lucky (Int32.toNatClampNeg v7_177))) ≤ (v4_195 - v4_195 / 100 * 100) then ((m_X8_winter_221 k49 k163 f_lucky f_may f_voyage v2 v3 v4_195 v5 v6 f_bears f_borneBy f_due f_gone f_sunk f_times f_whoBore x_t_asked x_t_day x_t_reason)) else (ogb (m_X8_drown f_bears f_borneBy f_gone f_sunk v7_177) (fun q_218 => (m_X8_winter_221 k49 k163 f_lucky f_may f_voyage v2 v3 v4_195 v5 v6 q_218.1 q_218.2.1 f_due q_218.2.2.1 q_218.2.2.2 f_times f_whoBore x_t_asked x_t_day x_t_reason)))))))))
noncomputable def m_X8_winter_163 (k49 : Int32 → Int32 → Int32 → Int32 → (Nat → Int32) → (Nat → Int32) → (Nat → Int32) → (Nat → Int32) → (Nat → Int32) → (Nat → Int32) → (Nat → Int32) → Int32 → Int32 → Int32 → Option (Int32 × ((Nat → Int32) × (Nat → Int32) × (Nat → Int32) × (Nat → Int32) × (Nat → Int32) × (Nat → Int32) × (Nat → Int32) × Int32 × Int32 × Int32))) (f_lucky : (Nat → Int32)) (f_may : (Nat → Int32)) (f_voyage : (Nat → Int32)) (fuel : Nat) : Int32 → Int32 → Int32 → Int32 → Int32 → (Nat → Int32) → (Nat → Int32) → (Nat → Int32) → (Nat → Int32) → (Nat → Int32) → (Nat → Int32) → (Nat → Int32) → Int32 → Int32 → Int32 → Option (Int32 × ((Nat → Int32) × (Nat → Int32) × (Nat → Int32) × (Nat → Int32) × (Nat → Int32) × (Nat → Int32) × (Nat → Int32) × Int32 × Int32 × Int32)) := Nat.rec (fun _ _ _ _ _ _ _ _ _ _ _ _ _ _ _ => none) (fun _ k163 => m_X8_winter_163b k49 k163 f_lucky f_may f_voyage) fuel
noncomputable def m_X8_winter_154 (k49 : Int32 → Int32 → Int32 → Int32 → (Nat → Int32) → (Nat → Int32) → (Nat → Int32) → (Nat → Int32) → (Nat → Int32) → (Nat → Int32) → (Nat → Int32) → Int32 → Int32 → Int32 → Option (Int32 × ((Nat → Int32) × (Nat → Int32) × (Nat → Int32) × (Nat → Int32) × (Nat → Int32) × (Nat → Int32) × (Nat → Int32) × Int32 × Int32 × Int32))) (k67 : Int32 → Int32 → Int32 → Int32 → Int32 → (Nat → Int32) → (Nat → Int32) → (Nat → Int32) → (Nat → Int32) → (Nat → Int32) → (Nat → Int32) → (Nat → Int32) → Int32 → Int32 → Int32 → Option (Int32 × ((Nat → Int32) × (Nat → Int32) × (Nat → Int32) × (Nat → Int32) × (Nat → Int32) × (Nat → Int32) × (Nat → Int32) × Int32 × Int32 × Int32))) (f_lucky : (Nat → Int32)) (f_may : (Nat → Int32)) (f_voyage : (Nat → Int32)) (v2 : Int32) (v3 : Int32) (v4 : Int32) (v5 : Int32) (v6 : Int32) (f_bears : (Nat → Int32)) (f_borneBy : (Nat → Int32)) (f_due : (Nat → Int32)) (f_gone : (Nat → Int32)) (f_sunk : (Nat → Int32)) (f_times : (Nat → Int32)) (f_whoBore : (Nat → Int32)) (x_t_asked : Int32) (x_t_day : Int32) (x_t_reason : Int32) : Option (Int32 × ((Nat → Int32) × (Nat → Int32) × (Nat → Int32) × (Nat → Int32) × (Nat → Int32) × (Nat → Int32) × (Nat → Int32) × Int32 × Int32 × Int32)) := ogl (v6 + 1) (fun (v6_154 : Int32) => (k67 v2 v3 v4 v5 v6_154 f_bears f_borneBy f_due f_gone f_sunk f_times f_whoBore x_t_asked x_t_day x_t_reason))
noncomputable def m_X8_winter_67b (k49 : Int32 → Int32 → Int32 → Int32 → (Nat → Int32) → (Nat → Int32) → (Nat → Int32) → (Nat → Int32) → (Nat → Int32) → (Nat → Int32) → (Nat → Int32) → Int32 → Int32 → Int32 → Option (Int32 × ((Nat → Int32) × (Nat → Int32) × (Nat → Int32) × (Nat → Int32) × (Nat → Int32) × (Nat → Int32) × (Nat → Int32) × Int32 × Int32 × Int32))) (k67 : Int32 → Int32 → Int32 → Int32 → Int32 → (Nat → Int32) → (Nat → Int32) → (Nat → Int32) → (Nat → Int32) → (Nat → Int32) → (Nat → Int32) → (Nat → Int32) → Int32 → Int32 → Int32 → Option (Int32 × ((Nat → Int32) × (Nat → Int32) × (Nat → Int32) × (Nat → Int32) × (Nat → Int32) × (Nat → Int32) × (Nat → Int32) × Int32 × Int32 × Int32))) (f_lucky : (Nat → Int32)) (f_may : (Nat → Int32)) (f_voyage : (Nat → Int32)) (v2 : Int32) (v3 : Int32) (v4 : Int32) (v5 : Int32) (v6 : Int32) (f_bears : (Nat → Int32)) (f_borneBy : (Nat → Int32)) (f_due : (Nat → Int32)) (f_gone : (Nat → Int32)) (f_sunk : (Nat → Int32)) (f_times : (Nat → Int32)) (f_whoBore : (Nat → Int32)) (x_t_asked : Int32) (x_t_day : Int32) (x_t_reason : Int32) : Option (Int32 × ((Nat → Int32) × (Nat → Int32) × (Nat → Int32) × (Nat → Int32) × (Nat → Int32) × (Nat → Int32) × (Nat → Int32) × Int32 × Int32 × Int32)) := if 6 ≤ v6 then ((m_X8_winter_163 k49 f_lucky f_may f_voyage 1000000 v2 v3 v4 v5 0 f_bears f_borneBy f_due f_gone f_sunk f_times f_whoBore x_t_asked x_t_day x_t_reason)) else (ogb (m_X8_leastAtHome f_borneBy f_gone f_may v6) (fun q_77 => ogi v6 6 (if (f_sunk (Int32.toNatClampNeg v6)) = 0 then (ogi v6 6 (if 0 ≤ (f_bears (Int32.toNatClampNeg v6)) then ((m_X8_winter_154 k49 k67 f_lucky f_may f_voyage v2 v3 v4 v5 v6 f_bears f_borneBy f_due f_gone f_sunk f_times f_whoBore x_t_asked x_t_day x_t_reason)) else (ogi v6 6 (if (f_voyage (Int32.toNatClampNeg v6)) ≤ 0 then ((m_X8_winter_154 k49 k67 f_lucky f_may f_voyage v2 v3 v4 v5 v6 f_bears f_borneBy f_due f_gone f_sunk f_times f_whoBore x_t_asked x_t_day x_t_reason)) else (if q_77 < 0 then ((m_X8_winter_154 k49 k67 f_lucky f_may f_voyage v2 v3 v4 v5 v6 f_bears f_borneBy f_due f_gone f_sunk f_times f_whoBore x_t_asked x_t_day x_t_reason)) else (ogi v6 6 (ogi q_77 5 (ogi v6 6 (ogi q_77 5 ((m_X8_winter_154 k49 k67 f_lucky f_may f_voyage v2 v3 v4 v5 v6 (upd f_bears (Int32.toNatClampNeg v6) q_77) (upd f_borneBy (Int32.toNatClampNeg q_77) v6) (upd f_due (Int32.toNatClampNeg q_77) (x_t_day + (f_voyage (Int32.toNatClampNeg v6)))) f_gone f_sunk f_times f_whoBore x_t_asked x_t_day x_t_reason))))))))))) else ((m_X8_winter_154 k49 k67 f_lucky f_may f_voyage v2 v3 v4 v5 v6 f_bears f_borneBy f_due f_gone f_sunk f_times f_whoBore x_t_asked x_t_day x_t_reason)))))
noncomputable def m_X8_winter_67 (k49 : Int32 → Int32 → Int32 → Int32 → (Nat → Int32) → (Nat → Int32) → (Nat → Int32) → (Nat → Int32) → (Nat → Int32) → (Nat → Int32) → (Nat → Int32) → Int32 → Int32 → Int32 → Option (Int32 × ((Nat → Int32) × (Nat → Int32) × (Nat → Int32) × (Nat → Int32) × (Nat → Int32) × (Nat → Int32) × (Nat → Int32) × Int32 × Int32 × Int32))) (f_lucky : (Nat → Int32)) (f_may : (Nat → Int32)) (f_voyage : (Nat → Int32)) (fuel : Nat) : Int32 → Int32 → Int32 → Int32 → Int32 → (Nat → Int32) → (Nat → Int32) → (Nat → Int32) → (Nat → Int32) → (Nat → Int32) → (Nat → Int32) → (Nat → Int32) → Int32 → Int32 → Int32 → Option (Int32 × ((Nat → Int32) × (Nat → Int32) × (Nat → Int32) × (Nat → Int32) × (Nat → Int32) × (Nat → Int32) × (Nat → Int32) × Int32 × Int32 × Int32)) := Nat.rec (fun _ _ _ _ _ _ _ _ _ _ _ _ _ _ _ => none) (fun _ k67 => m_X8_winter_67b k49 k67 f_lucky f_may f_voyage) fuel
noncomputable def m_X8_winter_64 (k49 : Int32 → Int32 → Int32 → Int32 → (Nat → Int32) → (Nat → Int32) → (Nat → Int32) → (Nat → Int32) → (Nat → Int32) → (Nat → Int32) → (Nat → Int32) → Int32 → Int32 → Int32 → Option (Int32 × ((Nat → Int32) × (Nat → Int32) × (Nat → Int32) × (Nat → Int32) × (Nat → Int32) × (Nat → Int32) × (Nat → Int32) × Int32 × Int32 × Int32))) (f_lucky : (Nat → Int32)) (f_may : (Nat → Int32)) (f_voyage : (Nat → Int32)) (v2 : Int32) (v3 : Int32) (v4 : Int32) (v5 : Int32) (f_bears : (Nat → Int32)) (f_borneBy : (Nat → Int32)) (f_due : (Nat → Int32)) (f_gone : (Nat → Int32)) (f_sunk : (Nat → Int32)) (f_times : (Nat → Int32)) (f_whoBore : (Nat → Int32)) (x_t_asked : Int32) (x_t_day : Int32) (x_t_reason : Int32) : Option (Int32 × ((Nat → Int32) × (Nat → Int32) × (Nat → Int32) × (Nat → Int32) × (Nat → Int32) × (Nat → Int32) × (Nat → Int32) × Int32 × Int32 × Int32)) := (m_X8_winter_67 k49 f_lucky f_may f_voyage 1000000 v2 v3 v4 v5 0 f_bears f_borneBy f_due f_gone f_sunk f_times f_whoBore x_t_asked x_t_day x_t_reason)
noncomputable def m_X8_winter_49b (k49 : Int32 → Int32 → Int32 → Int32 → (Nat → Int32) → (Nat → Int32) → (Nat → Int32) → (Nat → Int32) → (Nat → Int32) → (Nat → Int32) → (Nat → Int32) → Int32 → Int32 → Int32 → Option (Int32 × ((Nat → Int32) × (Nat → Int32) × (Nat → Int32) × (Nat → Int32) × (Nat → Int32) × (Nat → Int32) × (Nat → Int32) × Int32 × Int32 × Int32))) (f_lucky : (Nat → Int32)) (f_may : (Nat → Int32)) (f_voyage : (Nat → Int32)) (v2 : Int32) (v3 : Int32) (v4 : Int32) (v5 : Int32) (f_bears : (Nat → Int32)) (f_borneBy : (Nat → Int32)) (f_due : (Nat → Int32)) (f_gone : (Nat → Int32)) (f_sunk : (Nat → Int32)) (f_times : (Nat → Int32)) (f_whoBore : (Nat → Int32)) (x_t_asked : Int32) (x_t_day : Int32) (x_t_reason : Int32) : Option (Int32 × ((Nat → Int32) × (Nat → Int32) × (Nat → Int32) × (Nat → Int32) × (Nat → Int32) × (Nat → Int32) × (Nat → Int32) × Int32 × Int32 × Int32)) := if v2 ≤ v5 then ((m_X8_winter_245 f_lucky f_may f_voyage 1000000 v3 0 0 0 0 f_bears f_borneBy f_due f_gone f_sunk f_times f_whoBore x_t_asked x_t_day x_t_reason)) else (if v5 ≤ 0 then ((m_X8_winter_64 k49 f_lucky f_may f_voyage v2 v3 v4 v5 f_bears f_borneBy f_due f_gone f_sunk f_times f_whoBore x_t_asked x_t_day x_t_reason)) else (ogb (m_X8_nextDay f_due x_t_asked f_bears f_borneBy f_times f_whoBore x_t_day) (fun q_61 => (m_X8_winter_64 k49 f_lucky f_may f_voyage v2 v3 v4 v5 q_61.1 q_61.2.1 f_due f_gone f_sunk q_61.2.2.1 q_61.2.2.2.1 x_t_asked q_61.2.2.2.2 x_t_reason))))
noncomputable def m_X8_winter_49 (f_lucky : (Nat → Int32)) (f_may : (Nat → Int32)) (f_voyage : (Nat → Int32)) (fuel : Nat) : Int32 → Int32 → Int32 → Int32 → (Nat → Int32) → (Nat → Int32) → (Nat → Int32) → (Nat → Int32) → (Nat → Int32) → (Nat → Int32) → (Nat → Int32) → Int32 → Int32 → Int32 → Option (Int32 × ((Nat → Int32) × (Nat → Int32) × (Nat → Int32) × (Nat → Int32) × (Nat → Int32) × (Nat → Int32) × (Nat → Int32) × Int32 × Int32 × Int32)) := Nat.rec (fun _ _ _ _ _ _ _ _ _ _ _ _ _ _ => none) (fun _ k49 => m_X8_winter_49b k49 f_lucky f_may f_voyage) fuel
noncomputable def m_X8_winter (f_lucky : (Nat → Int32)) (f_may : (Nat → Int32)) (f_voyage : (Nat → Int32)) (f_bears : (Nat → Int32)) (f_borneBy : (Nat → Int32)) (f_due : (Nat → Int32)) (f_gone : (Nat → Int32)) (f_sunk : (Nat → Int32)) (f_times : (Nat → Int32)) (f_whoBore : (Nat → Int32)) (x_t_asked : Int32) (x_t_day : Int32) (x_t_reason : Int32) (v1 : Int32) (v2 : Int32) (v3 : Int32) : Option (Int32 × ((Nat → Int32) × (Nat → Int32) × (Nat → Int32) × (Nat → Int32) × (Nat → Int32) × (Nat → Int32) × (Nat → Int32) × Int32 × Int32 × Int32)) := ogb (m_X8_in v1 0 9999) (fun q_5 => if q_5 = 0 then (some ((-2), (f_bears, f_borneBy, f_due, f_gone, f_sunk, f_times, f_whoBore, x_t_asked, x_t_day, x_t_reason))) else (ogb (m_X8_in v2 1 60) (fun q_15 => if q_15 = 0 then (some ((-2), (f_bears, f_borneBy, f_due, f_gone, f_sunk, f_times, f_whoBore, x_t_asked, x_t_day, x_t_reason))) else (ogb (m_X8_in v3 0 2) (fun q_24 => if q_24 = 0 then (some ((-2), (f_bears, f_borneBy, f_due, f_gone, f_sunk, f_times, f_whoBore, x_t_asked, x_t_day, x_t_reason))) else (ogb (m_X8_beginLog f_bears f_borneBy f_due f_gone f_sunk f_times f_whoBore x_t_day x_t_reason) (fun q_34 => (m_X8_winter_49 f_lucky f_may f_voyage 1000000 v2 v3 v1 0 q_34.1 q_34.2.1 q_34.2.2.1 q_34.2.2.2.1 q_34.2.2.2.2.1 q_34.2.2.2.2.2.1 q_34.2.2.2.2.2.2.1 (-6) q_34.2.2.2.2.2.2.2.1 q_34.2.2.2.2.2.2.2.2))))))))
set_option maxHeartbeats 4000000 in
set_option maxRecDepth 100000 in
theorem c_X8_winter (l : Launch) (D : va_G) (cI cZ : ClassId) (a_t a_bears a_borneBy a_due a_gone a_lucky a_may a_sunk a_times a_voyage a_whoBore b_worths b_ranks b_pad b_gives b_best b_holds b_refused b_sums b_image b_isKept : Nat) (f_bears : (Nat → Int32)) (f_borneBy : (Nat → Int32)) (f_due : (Nat → Int32)) (f_gone : (Nat → Int32)) (f_lucky : (Nat → Int32)) (f_may : (Nat → Int32)) (f_sunk : (Nat → Int32)) (f_times : (Nat → Int32)) (f_voyage : (Nat → Int32)) (f_whoBore : (Nat → Int32)) (x_t_signs : Int32) (x_t_day : Int32) (x_t_reason : Int32) (x_t_asked : Int32) (v1 : Int32) (v2 : Int32) (v3 : Int32) {res : (Int32 × ((Nat → Int32) × (Nat → Int32) × (Nat → Int32) × (Nat → Int32) × (Nat → Int32) × (Nat → Int32) × (Nat → Int32) × Int32 × Int32 × Int32))} (h : m_X8_winter f_lucky f_may f_voyage f_bears f_borneBy f_due f_gone f_sunk f_times f_whoBore x_t_asked x_t_day x_t_reason v1 v2 v3 = some res) : CT l yX8_winter wsX8_winter ({ frames := 2, cells := 0, slots := 0, locals := 44 } : Room) D cI cZ [.ref a_t, .int v1, .int v2, .int v3] [(a_t, .inr (8, [.ref a_may, .ref a_voyage, .ref a_lucky, .ref b_worths, .ref b_ranks, .int x_t_signs, .ref b_pad, .int x_t_day, .int x_t_reason, .ref a_bears, .ref a_due, .ref a_borneBy, .ref a_gone, .ref a_sunk, .ref a_times, .int x_t_asked, .ref a_whoBore, .ref b_gives, .ref b_best, .ref b_holds, .ref b_refused, .ref b_sums, .ref b_image, .ref b_isKept])), (a_bears, .inl (cI, 6, .inl f_bears)), (a_borneBy, .inl (cI, 5, .inl f_borneBy)), (a_due, .inl (cI, 5, .inl f_due)), (a_gone, .inl (cZ, 5, .inl f_gone)), (a_lucky, .inl (cI, 5, .inl f_lucky)), (a_may, .inl (cI, 6, .inl f_may)), (a_sunk, .inl (cZ, 6, .inl f_sunk)), (a_times, .inl (cI, 5, .inl f_times)), (a_voyage, .inl (cI, 6, .inl f_voyage)), (a_whoBore, .inl (cI, 5, .inl f_whoBore))] (QI D [(a_t, .inr (8, [.ref a_may, .ref a_voyage, .ref a_lucky, .ref b_worths, .ref b_ranks, .int x_t_signs, .ref b_pad, .int x_t_day, .int x_t_reason, .ref a_bears, .ref a_due, .ref a_borneBy, .ref a_gone, .ref a_sunk, .ref a_times, .int x_t_asked, .ref a_whoBore, .ref b_gives, .ref b_best, .ref b_holds, .ref b_refused, .ref b_sums, .ref b_image, .ref b_isKept])), (a_bears, .inl (cI, 6, .inl f_bears)), (a_borneBy, .inl (cI, 5, .inl f_borneBy)), (a_due, .inl (cI, 5, .inl f_due)), (a_gone, .inl (cZ, 5, .inl f_gone)), (a_lucky, .inl (cI, 5, .inl f_lucky)), (a_may, .inl (cI, 6, .inl f_may)), (a_sunk, .inl (cZ, 6, .inl f_sunk)), (a_times, .inl (cI, 5, .inl f_times)), (a_voyage, .inl (cI, 6, .inl f_voyage)), (a_whoBore, .inl (cI, 5, .inl f_whoBore))] (fun (r : Int32) (u : (Nat → Int32) × (Nat → Int32) × (Nat → Int32) × (Nat → Int32) × (Nat → Int32) × (Nat → Int32) × (Nat → Int32) × Int32 × Int32 × Int32) => r = res.1 ∧ u = res.2) (fun (u : (Nat → Int32) × (Nat → Int32) × (Nat → Int32) × (Nat → Int32) × (Nat → Int32) × (Nat → Int32) × (Nat → Int32) × Int32 × Int32 × Int32) => [(a_t, .inr (8, [.ref a_may, .ref a_voyage, .ref a_lucky, .ref b_worths, .ref b_ranks, .int x_t_signs, .ref b_pad, .int u.2.2.2.2.2.2.2.2.1, .int u.2.2.2.2.2.2.2.2.2, .ref a_bears, .ref a_due, .ref a_borneBy, .ref a_gone, .ref a_sunk, .ref a_times, .int u.2.2.2.2.2.2.2.1, .ref a_whoBore, .ref b_gives, .ref b_best, .ref b_holds, .ref b_refused, .ref b_sums, .ref b_image, .ref b_isKept])), (a_bears, .inl (cI, 6, .inl u.1)), (a_borneBy, .inl (cI, 5, .inl u.2.1)), (a_due, .inl (cI, 5, .inl u.2.2.1)), (a_gone, .inl (cZ, 5, .inl u.2.2.2.1)), (a_lucky, .inl (cI, 5, .inl f_lucky)), (a_may, .inl (cI, 6, .inl f_may)), (a_sunk, .inl (cZ, 6, .inl u.2.2.2.2.1)), (a_times, .inl (cI, 5, .inl u.2.2.2.2.2.1)), (a_voyage, .inl (cI, 6, .inl f_voyage)), (a_whoBore, .inl (cI, 5, .inl u.2.2.2.2.2.2.1))])) 0 0 := by
  have h : (ogb (m_X8_in v1 0 9999) (fun q_5 => if q_5 = 0 then (some ((-2), (f_bears, f_borneBy, f_due, f_gone, f_sunk, f_times, f_whoBore, x_t_asked, x_t_day, x_t_reason))) else (ogb (m_X8_in v2 1 60) (fun q_15 => if q_15 = 0 then (some ((-2), (f_bears, f_borneBy, f_due, f_gone, f_sunk, f_times, f_whoBore, x_t_asked, x_t_day, x_t_reason))) else (ogb (m_X8_in v3 0 2) (fun q_24 => if q_24 = 0 then (some ((-2), (f_bears, f_borneBy, f_due, f_gone, f_sunk, f_times, f_whoBore, x_t_asked, x_t_day, x_t_reason))) else (ogb (m_X8_beginLog f_bears f_borneBy f_due f_gone f_sunk f_times f_whoBore x_t_day x_t_reason) (fun q_34 => (m_X8_winter_49 f_lucky f_may f_voyage 1000000 v2 v3 v1 0 q_34.1 q_34.2.1 q_34.2.2.1 q_34.2.2.2.1 q_34.2.2.2.2.1 q_34.2.2.2.2.2.1 q_34.2.2.2.2.2.2.1 (-6) q_34.2.2.2.2.2.2.2.1 q_34.2.2.2.2.2.2.2.2)))))))) : Option (Int32 × ((Nat → Int32) × (Nat → Int32) × (Nat → Int32) × (Nat → Int32) × (Nat → Int32) × (Nat → Int32) × (Nat → Int32) × Int32 × Int32 × Int32))) = some res := h
  refine ct_entry (cc := cX8_winter) (nl := 9) (ret := (some .int)) (own := RX8) (lv0 := [(0, .ref a_t), (1, .int v1), (2, .int v2), (3, .int v3)]) (by decide) rfl rfl (Nat.le_of_ble_eq_true rfl) rfl ?_
  intro p e s m args below meth c A Q hA hQ hr hnm B
  have iX8 : ∀ w ∈ wsX80, w ∈ wsX8_winter := by decide +kernel
  have cut_281 : ∀ (fuel : Nat) (v3 : Int32) (v5 : Int32) (v6 : Int32) (v7 : Int32) (v8 : Int32) (f_bears : (Nat → Int32)) (f_borneBy : (Nat → Int32)) (f_due : (Nat → Int32)) (f_gone : (Nat → Int32)) (f_sunk : (Nat → Int32)) (f_times : (Nat → Int32)) (f_whoBore : (Nat → Int32)) (x_t_asked : Int32) (x_t_day : Int32) (x_t_reason : Int32), m_X8_winter_281 f_lucky f_may f_voyage fuel v3 v5 v6 v7 v8 f_bears f_borneBy f_due f_gone f_sunk f_times f_whoBore x_t_asked x_t_day x_t_reason = some res → WW p l e (headSpec wsX8_winter ({ frames := 2, cells := 0, slots := 0, locals := 44 } : Room)).room s m args below meth c D A 9 0 0 Q [(a_t, .inr (8, [.ref a_may, .ref a_voyage, .ref a_lucky, .ref b_worths, .ref b_ranks, .int x_t_signs, .ref b_pad, .int x_t_day, .int x_t_reason, .ref a_bears, .ref a_due, .ref a_borneBy, .ref a_gone, .ref a_sunk, .ref a_times, .int x_t_asked, .ref a_whoBore, .ref b_gives, .ref b_best, .ref b_holds, .ref b_refused, .ref b_sums, .ref b_image, .ref b_isKept])), (a_bears, .inl (cI, 6, .inl f_bears)), (a_borneBy, .inl (cI, 5, .inl f_borneBy)), (a_due, .inl (cI, 5, .inl f_due)), (a_gone, .inl (cZ, 5, .inl f_gone)), (a_lucky, .inl (cI, 5, .inl f_lucky)), (a_may, .inl (cI, 6, .inl f_may)), (a_sunk, .inl (cZ, 6, .inl f_sunk)), (a_times, .inl (cI, 5, .inl f_times)), (a_voyage, .inl (cI, 6, .inl f_voyage)), (a_whoBore, .inl (cI, 5, .inl f_whoBore))] [(0, .ref a_t), (3, .int v3), (5, .int v5), (6, .int v6), (7, .int v7), (8, .int v8)] [] 281 := by
    intro fuel_281
    induction fuel_281 with
    | zero => intro v3 v5 v6 v7 v8 f_bears f_borneBy f_due f_gone f_sunk f_times f_whoBore x_t_asked x_t_day x_t_reason h; exact og_0 h
    | succ fuel_281 ih_281 =>
      have cut_307 : ∀ (v3 : Int32) (v5 : Int32) (v7 : Int32) (v8 : Int32) (s0 : Int32) (s1 : Int32) (f_bears : (Nat → Int32)) (f_borneBy : (Nat → Int32)) (f_due : (Nat → Int32)) (f_gone : (Nat → Int32)) (f_sunk : (Nat → Int32)) (f_times : (Nat → Int32)) (f_whoBore : (Nat → Int32)) (x_t_asked : Int32) (x_t_day : Int32) (x_t_reason : Int32), m_X8_winter_307 (m_X8_winter_281 f_lucky f_may f_voyage fuel_281) f_lucky f_may f_voyage v3 v5 v7 v8 s0 s1 f_bears f_borneBy f_due f_gone f_sunk f_times f_whoBore x_t_asked x_t_day x_t_reason = some res → WW p l e (headSpec wsX8_winter ({ frames := 2, cells := 0, slots := 0, locals := 44 } : Room)).room s m args below meth c D A 9 0 0 Q [(a_t, .inr (8, [.ref a_may, .ref a_voyage, .ref a_lucky, .ref b_worths, .ref b_ranks, .int x_t_signs, .ref b_pad, .int x_t_day, .int x_t_reason, .ref a_bears, .ref a_due, .ref a_borneBy, .ref a_gone, .ref a_sunk, .ref a_times, .int x_t_asked, .ref a_whoBore, .ref b_gives, .ref b_best, .ref b_holds, .ref b_refused, .ref b_sums, .ref b_image, .ref b_isKept])), (a_bears, .inl (cI, 6, .inl f_bears)), (a_borneBy, .inl (cI, 5, .inl f_borneBy)), (a_due, .inl (cI, 5, .inl f_due)), (a_gone, .inl (cZ, 5, .inl f_gone)), (a_lucky, .inl (cI, 5, .inl f_lucky)), (a_may, .inl (cI, 6, .inl f_may)), (a_sunk, .inl (cZ, 6, .inl f_sunk)), (a_times, .inl (cI, 5, .inl f_times)), (a_voyage, .inl (cI, 6, .inl f_voyage)), (a_whoBore, .inl (cI, 5, .inl f_whoBore))] [(0, .ref a_t), (3, .int v3), (5, .int v5), (7, .int v7), (8, .int v8)] [.int s1, .int s0] 307 := by
        intro v3 v5 v7 v8 s0 s1 f_bears f_borneBy f_due f_gone f_sunk f_times f_whoBore x_t_asked x_t_day x_t_reason h
        replace h : (ogl (s0 ||| s1) (fun (v6_308 : Int32) => ogi v8 5 (ogl (v7 + (f_times (Int32.toNatClampNeg v8))) (fun (v7_320 : Int32) => ogl (v8 + 1) (fun (v8_322 : Int32) => ((m_X8_winter_281 f_lucky f_may f_voyage fuel_281) v3 v5 v6_308 v7_320 v8_322 f_bears f_borneBy f_due f_gone f_sunk f_times f_whoBore x_t_asked x_t_day x_t_reason))))) : Option (Int32 × ((Nat → Int32) × (Nat → Int32) × (Nat → Int32) × (Nat → Int32) × (Nat → Int32) × (Nat → Int32) × (Nat → Int32) × Int32 × Int32 × Int32))) = some res := h
        refine ww_ior B dX8_winter_307 ?_
        refine ww_topi (fun v6_308 ev6_308 => ?_)
        replace h := og_l ev6_308 h
        refine ww_istore B dX8_winter_308 (lv' := [(6, .int v6_308), (0, .ref a_t), (3, .int v3), (5, .int v5), (7, .int v7), (8, .int v8)]) (by decide) rfl ?_
        refine ww_iload B dX8_winter_310 4 rfl ?_
        refine ww_aload_n B dX8_winter_312 1 rfl ?_
        refine ww_get (ci := 8) (T := TX8) (C := RX8) (N := 24) B iX8 0 rfl rfl 14 (by decide) (by decide +kernel) rfl rfl dX8_winter_313 ?_
        refine ww_iload B dX8_winter_316 5 rfl ?_
        obtain ⟨i_318, h⟩ := og_i h
        refine ww_iald B 8 rfl i_318 dX8_winter_318 ?_
        refine ww_iadd B dX8_winter_319 ?_
        refine ww_topi (fun v7_320 ev7_320 => ?_)
        replace h := og_l ev7_320 h
        refine ww_istore B dX8_winter_320 (lv' := [(7, .int v7_320), (6, .int v6_308), (0, .ref a_t), (3, .int v3), (5, .int v5), (8, .int v8)]) (by decide) rfl ?_
        obtain ⟨v8_322, ev8_322⟩ : ∃ y : Int32, y = (v8 + 1) := ⟨_, rfl⟩
        refine ww_iinc B dX8_winter_322 5 rfl (v := v8_322) (by rw [ev8_322]; rfl) (by decide) (lv' := [(8, .int v8_322), (7, .int v7_320), (6, .int v6_308), (0, .ref a_t), (3, .int v3), (5, .int v5)]) rfl ?_
        replace h := og_l ev8_322 h
        refine ww_goto B 281 dX8_winter_325 (by decide) ?_
        refine ww_lsel (lv' := [(0, .ref a_t), (3, .int v3), (5, .int v5), (6, .int v6_308), (7, .int v7_320), (8, .int v8_322)]) [3, 4, 5, 2, 1, 0] rfl ?_
        exact ih_281 _ _ _ _ _ _ _ _ _ _ _ _ _ _ _ h
      intro v3 v5 v6 v7 v8 f_bears f_borneBy f_due f_gone f_sunk f_times f_whoBore x_t_asked x_t_day x_t_reason h
      replace h : (if 5 ≤ v8 then (if v3 = 0 then (some (v5, (f_bears, f_borneBy, f_due, f_gone, f_sunk, f_times, f_whoBore, x_t_asked, x_t_day, x_t_reason))) else (if v3 = 1 then (some (v6, (f_bears, f_borneBy, f_due, f_gone, f_sunk, f_times, f_whoBore, x_t_asked, x_t_day, x_t_reason))) else (some (v7, (f_bears, f_borneBy, f_due, f_gone, f_sunk, f_times, f_whoBore, x_t_asked, x_t_day, x_t_reason))))) else (ogi v8 5 (if (f_gone (Int32.toNatClampNeg v8)) = 0 then ((m_X8_winter_307 (m_X8_winter_281 f_lucky f_may f_voyage fuel_281) f_lucky f_may f_voyage v3 v5 v7 v8 v6 0 f_bears f_borneBy f_due f_gone f_sunk f_times f_whoBore x_t_asked x_t_day x_t_reason)) else ((m_X8_winter_307 (m_X8_winter_281 f_lucky f_may f_voyage fuel_281) f_lucky f_may f_voyage v3 v5 v7 v8 v6 ((1 : Int32) <<< ((v8 : Int32) &&& 31)) f_bears f_borneBy f_due f_gone f_sunk f_times f_whoBore x_t_asked x_t_day x_t_reason)))) : Option (Int32 × ((Nat → Int32) × (Nat → Int32) × (Nat → Int32) × (Nat → Int32) × (Nat → Int32) × (Nat → Int32) × (Nat → Int32) × Int32 × Int32 × Int32))) = some res := h
      refine ww_iload B dX8_winter_281 5 rfl ?_
      refine ww_iconst B dX8_winter_283 (v := 5) (by decide) ?_
      refine ww_icmp_ge B 328 dX8_winter_284 (by decide) (fun c_284 => ?_) (fun c_284 => ?_)
      · replace h := og_t c_284 h
        refine ww_iload_n B dX8_winter_328 1 rfl ?_
        refine ww_if_ne B 337 dX8_winter_329 (by decide) (fun c_329 => ?_) (fun c_329 => ?_)
        · replace h := og_f c_329 h
          refine ww_iload_n B dX8_winter_337 1 rfl ?_
          refine ww_iconst B dX8_winter_338 (v := 1) (by decide) ?_
          refine ww_icmp_ne B 347 dX8_winter_339 (by decide) (fun c_339 => ?_) (fun c_339 => ?_)
          · replace h := og_f c_339 h
            refine ww_iload B dX8_winter_347 4 rfl ?_
            exact ww_iret B hA hQ hr dX8_winter_349 (f_bears, f_borneBy, f_due, f_gone, f_sunk, f_times, f_whoBore, x_t_asked, x_t_day, x_t_reason) [0, 1, 2, 3, 4, 5, 6, 7, 8, 9, 10] rfl (by decide) (og_p h)
          · replace h := og_t c_339 h
            refine ww_iload B dX8_winter_342 3 rfl ?_
            refine ww_goto B 349 dX8_winter_344 (by decide) ?_
            exact ww_iret B hA hQ hr dX8_winter_349 (f_bears, f_borneBy, f_due, f_gone, f_sunk, f_times, f_whoBore, x_t_asked, x_t_day, x_t_reason) [0, 1, 2, 3, 4, 5, 6, 7, 8, 9, 10] rfl (by decide) (og_p h)
        · replace h := og_t c_329 h
          refine ww_iload B dX8_winter_332 2 rfl ?_
          refine ww_goto B 349 dX8_winter_334 (by decide) ?_
          exact ww_iret B hA hQ hr dX8_winter_349 (f_bears, f_borneBy, f_due, f_gone, f_sunk, f_times, f_whoBore, x_t_asked, x_t_day, x_t_reason) [0, 1, 2, 3, 4, 5, 6, 7, 8, 9, 10] rfl (by decide) (og_p h)
      · replace h := og_f c_284 h
        refine ww_iload B dX8_winter_287 3 rfl ?_
        refine ww_aload_n B dX8_winter_289 0 rfl ?_
        refine ww_get (ci := 8) (T := TX8) (C := RX8) (N := 24) B iX8 0 rfl rfl 12 (by decide) (by decide +kernel) rfl rfl dX8_winter_290 ?_
        refine ww_iload B dX8_winter_293 5 rfl ?_
        obtain ⟨i_295, h⟩ := og_i h
        refine ww_zald B 4 rfl i_295 dX8_winter_295 ?_
        refine ww_if_eq B 306 dX8_winter_296 (by decide) (fun c_296 => ?_) (fun c_296 => ?_)
        · replace h := og_t c_296 h
          refine ww_iconst B dX8_winter_306 (v := 0) (by decide) ?_
          refine ww_lsel (lv' := [(0, .ref a_t), (3, .int v3), (5, .int v5), (7, .int v7), (8, .int v8)]) [0, 1, 2, 4, 5] rfl ?_
          exact cut_307 _ _ _ _ _ _ _ _ _ _ _ _ _ _ _ _ h
        · replace h := og_f c_296 h
          refine ww_iconst B dX8_winter_299 (v := 1) (by decide) ?_
          refine ww_iload B dX8_winter_300 5 rfl ?_
          refine ww_ishl B dX8_winter_302 ?_
          refine ww_goto B 307 dX8_winter_303 (by decide) ?_
          refine ww_lsel (lv' := [(0, .ref a_t), (3, .int v3), (5, .int v5), (7, .int v7), (8, .int v8)]) [0, 1, 2, 4, 5] rfl ?_
          exact cut_307 _ _ _ _ _ _ _ _ _ _ _ _ _ _ _ _ h
  have cut_245 : ∀ (fuel : Nat) (v3 : Int32) (v5 : Int32) (v6 : Int32) (v7 : Int32) (v8 : Int32) (f_bears : (Nat → Int32)) (f_borneBy : (Nat → Int32)) (f_due : (Nat → Int32)) (f_gone : (Nat → Int32)) (f_sunk : (Nat → Int32)) (f_times : (Nat → Int32)) (f_whoBore : (Nat → Int32)) (x_t_asked : Int32) (x_t_day : Int32) (x_t_reason : Int32), m_X8_winter_245 f_lucky f_may f_voyage fuel v3 v5 v6 v7 v8 f_bears f_borneBy f_due f_gone f_sunk f_times f_whoBore x_t_asked x_t_day x_t_reason = some res → WW p l e (headSpec wsX8_winter ({ frames := 2, cells := 0, slots := 0, locals := 44 } : Room)).room s m args below meth c D A 9 0 0 Q [(a_t, .inr (8, [.ref a_may, .ref a_voyage, .ref a_lucky, .ref b_worths, .ref b_ranks, .int x_t_signs, .ref b_pad, .int x_t_day, .int x_t_reason, .ref a_bears, .ref a_due, .ref a_borneBy, .ref a_gone, .ref a_sunk, .ref a_times, .int x_t_asked, .ref a_whoBore, .ref b_gives, .ref b_best, .ref b_holds, .ref b_refused, .ref b_sums, .ref b_image, .ref b_isKept])), (a_bears, .inl (cI, 6, .inl f_bears)), (a_borneBy, .inl (cI, 5, .inl f_borneBy)), (a_due, .inl (cI, 5, .inl f_due)), (a_gone, .inl (cZ, 5, .inl f_gone)), (a_lucky, .inl (cI, 5, .inl f_lucky)), (a_may, .inl (cI, 6, .inl f_may)), (a_sunk, .inl (cZ, 6, .inl f_sunk)), (a_times, .inl (cI, 5, .inl f_times)), (a_voyage, .inl (cI, 6, .inl f_voyage)), (a_whoBore, .inl (cI, 5, .inl f_whoBore))] [(0, .ref a_t), (3, .int v3), (5, .int v5), (6, .int v6), (7, .int v7), (8, .int v8)] [] 245 := by
    intro fuel_245
    induction fuel_245 with
    | zero => intro v3 v5 v6 v7 v8 f_bears f_borneBy f_due f_gone f_sunk f_times f_whoBore x_t_asked x_t_day x_t_reason h; exact og_0 h
    | succ fuel_245 ih_245 =>
      have cut_269 : ∀ (v3 : Int32) (v6 : Int32) (v7 : Int32) (v8 : Int32) (s0 : Int32) (s1 : Int32) (f_bears : (Nat → Int32)) (f_borneBy : (Nat → Int32)) (f_due : (Nat → Int32)) (f_gone : (Nat → Int32)) (f_sunk : (Nat → Int32)) (f_times : (Nat → Int32)) (f_whoBore : (Nat → Int32)) (x_t_asked : Int32) (x_t_day : Int32) (x_t_reason : Int32), m_X8_winter_269 (m_X8_winter_245 f_lucky f_may f_voyage fuel_245) f_lucky f_may f_voyage v3 v6 v7 v8 s0 s1 f_bears f_borneBy f_due f_gone f_sunk f_times f_whoBore x_t_asked x_t_day x_t_reason = some res → WW p l e (headSpec wsX8_winter ({ frames := 2, cells := 0, slots := 0, locals := 44 } : Room)).room s m args below meth c D A 9 0 0 Q [(a_t, .inr (8, [.ref a_may, .ref a_voyage, .ref a_lucky, .ref b_worths, .ref b_ranks, .int x_t_signs, .ref b_pad, .int x_t_day, .int x_t_reason, .ref a_bears, .ref a_due, .ref a_borneBy, .ref a_gone, .ref a_sunk, .ref a_times, .int x_t_asked, .ref a_whoBore, .ref b_gives, .ref b_best, .ref b_holds, .ref b_refused, .ref b_sums, .ref b_image, .ref b_isKept])), (a_bears, .inl (cI, 6, .inl f_bears)), (a_borneBy, .inl (cI, 5, .inl f_borneBy)), (a_due, .inl (cI, 5, .inl f_due)), (a_gone, .inl (cZ, 5, .inl f_gone)), (a_lucky, .inl (cI, 5, .inl f_lucky)), (a_may, .inl (cI, 6, .inl f_may)), (a_sunk, .inl (cZ, 6, .inl f_sunk)), (a_times, .inl (cI, 5, .inl f_times)), (a_voyage, .inl (cI, 6, .inl f_voyage)), (a_whoBore, .inl (cI, 5, .inl f_whoBore))] [(0, .ref a_t), (3, .int v3), (6, .int v6), (7, .int v7), (8, .int v8)] [.int s1, .int s0] 269 := by
        intro v3 v6 v7 v8 s0 s1 f_bears f_borneBy f_due f_gone f_sunk f_times f_whoBore x_t_asked x_t_day x_t_reason h
        replace h : (ogl (s0 + s1) (fun (v5_270 : Int32) => ogl (v8 + 1) (fun (v8_272 : Int32) => ((m_X8_winter_245 f_lucky f_may f_voyage fuel_245) v3 v5_270 v6 v7 v8_272 f_bears f_borneBy f_due f_gone f_sunk f_times f_whoBore x_t_asked x_t_day x_t_reason))) : Option (Int32 × ((Nat → Int32) × (Nat → Int32) × (Nat → Int32) × (Nat → Int32) × (Nat → Int32) × (Nat → Int32) × (Nat → Int32) × Int32 × Int32 × Int32))) = some res := h
        refine ww_iadd B dX8_winter_269 ?_
        refine ww_topi (fun v5_270 ev5_270 => ?_)
        replace h := og_l ev5_270 h
        refine ww_istore B dX8_winter_270 (lv' := [(5, .int v5_270), (0, .ref a_t), (3, .int v3), (6, .int v6), (7, .int v7), (8, .int v8)]) (by decide) rfl ?_
        obtain ⟨v8_272, ev8_272⟩ : ∃ y : Int32, y = (v8 + 1) := ⟨_, rfl⟩
        refine ww_iinc B dX8_winter_272 5 rfl (v := v8_272) (by rw [ev8_272]; rfl) (by decide) (lv' := [(8, .int v8_272), (5, .int v5_270), (0, .ref a_t), (3, .int v3), (6, .int v6), (7, .int v7)]) rfl ?_
        replace h := og_l ev8_272 h
        refine ww_goto B 245 dX8_winter_275 (by decide) ?_
        refine ww_lsel (lv' := [(0, .ref a_t), (3, .int v3), (5, .int v5_270), (6, .int v6), (7, .int v7), (8, .int v8_272)]) [2, 3, 1, 4, 5, 0] rfl ?_
        exact ih_245 _ _ _ _ _ _ _ _ _ _ _ _ _ _ _ h
      intro v3 v5 v6 v7 v8 f_bears f_borneBy f_due f_gone f_sunk f_times f_whoBore x_t_asked x_t_day x_t_reason h
      replace h : (if 6 ≤ v8 then ((m_X8_winter_281 f_lucky f_may f_voyage 1000000 v3 v5 v6 v7 0 f_bears f_borneBy f_due f_gone f_sunk f_times f_whoBore x_t_asked x_t_day x_t_reason)) else (ogi v8 6 (if (f_sunk (Int32.toNatClampNeg v8)) = 0 then ((m_X8_winter_269 (m_X8_winter_245 f_lucky f_may f_voyage fuel_245) f_lucky f_may f_voyage v3 v6 v7 v8 v5 0 f_bears f_borneBy f_due f_gone f_sunk f_times f_whoBore x_t_asked x_t_day x_t_reason)) else ((m_X8_winter_269 (m_X8_winter_245 f_lucky f_may f_voyage fuel_245) f_lucky f_may f_voyage v3 v6 v7 v8 v5 1 f_bears f_borneBy f_due f_gone f_sunk f_times f_whoBore x_t_asked x_t_day x_t_reason)))) : Option (Int32 × ((Nat → Int32) × (Nat → Int32) × (Nat → Int32) × (Nat → Int32) × (Nat → Int32) × (Nat → Int32) × (Nat → Int32) × Int32 × Int32 × Int32))) = some res := h
      refine ww_iload B dX8_winter_245 5 rfl ?_
      refine ww_bipush B dX8_winter_247 (v := 6) (by decide) ?_
      refine ww_icmp_ge B 278 dX8_winter_249 (by decide) (fun c_249 => ?_) (fun c_249 => ?_)
      · replace h := og_t c_249 h
        refine ww_iconst B dX8_winter_278 (v := 0) (by decide) ?_
        refine ww_istore B dX8_winter_279 (lv' := [(8, .int 0), (0, .ref a_t), (3, .int v3), (5, .int v5), (6, .int v6), (7, .int v7)]) (by decide) rfl ?_
        refine ww_lsel (lv' := [(0, .ref a_t), (3, .int v3), (5, .int v5), (6, .int v6), (7, .int v7), (8, .int 0)]) [1, 2, 3, 4, 5, 0] rfl ?_
        exact cut_281 _ _ _ _ _ _ _ _ _ _ _ _ _ _ _ _ h
      · replace h := og_f c_249 h
        refine ww_iload B dX8_winter_252 2 rfl ?_
        refine ww_aload_n B dX8_winter_254 0 rfl ?_
        refine ww_get (ci := 8) (T := TX8) (C := RX8) (N := 24) B iX8 0 rfl rfl 13 (by decide) (by decide +kernel) rfl rfl dX8_winter_255 ?_
        refine ww_iload B dX8_winter_258 5 rfl ?_
        obtain ⟨i_260, h⟩ := og_i h
        refine ww_zald B 7 rfl i_260 dX8_winter_260 ?_
        refine ww_if_eq B 268 dX8_winter_261 (by decide) (fun c_261 => ?_) (fun c_261 => ?_)
        · replace h := og_t c_261 h
          refine ww_iconst B dX8_winter_268 (v := 0) (by decide) ?_
          refine ww_lsel (lv' := [(0, .ref a_t), (3, .int v3), (6, .int v6), (7, .int v7), (8, .int v8)]) [0, 1, 3, 4, 5] rfl ?_
          exact cut_269 _ _ _ _ _ _ _ _ _ _ _ _ _ _ _ _ h
        · replace h := og_f c_261 h
          refine ww_iconst B dX8_winter_264 (v := 1) (by decide) ?_
          refine ww_goto B 269 dX8_winter_265 (by decide) ?_
          refine ww_lsel (lv' := [(0, .ref a_t), (3, .int v3), (6, .int v6), (7, .int v7), (8, .int v8)]) [0, 1, 3, 4, 5] rfl ?_
          exact cut_269 _ _ _ _ _ _ _ _ _ _ _ _ _ _ _ _ h
  have cut_49 : ∀ (fuel : Nat) (v2 : Int32) (v3 : Int32) (v4 : Int32) (v5 : Int32) (f_bears : (Nat → Int32)) (f_borneBy : (Nat → Int32)) (f_due : (Nat → Int32)) (f_gone : (Nat → Int32)) (f_sunk : (Nat → Int32)) (f_times : (Nat → Int32)) (f_whoBore : (Nat → Int32)) (x_t_asked : Int32) (x_t_day : Int32) (x_t_reason : Int32), m_X8_winter_49 f_lucky f_may f_voyage fuel v2 v3 v4 v5 f_bears f_borneBy f_due f_gone f_sunk f_times f_whoBore x_t_asked x_t_day x_t_reason = some res → WW p l e (headSpec wsX8_winter ({ frames := 2, cells := 0, slots := 0, locals := 44 } : Room)).room s m args below meth c D A 9 0 0 Q [(a_t, .inr (8, [.ref a_may, .ref a_voyage, .ref a_lucky, .ref b_worths, .ref b_ranks, .int x_t_signs, .ref b_pad, .int x_t_day, .int x_t_reason, .ref a_bears, .ref a_due, .ref a_borneBy, .ref a_gone, .ref a_sunk, .ref a_times, .int x_t_asked, .ref a_whoBore, .ref b_gives, .ref b_best, .ref b_holds, .ref b_refused, .ref b_sums, .ref b_image, .ref b_isKept])), (a_bears, .inl (cI, 6, .inl f_bears)), (a_borneBy, .inl (cI, 5, .inl f_borneBy)), (a_due, .inl (cI, 5, .inl f_due)), (a_gone, .inl (cZ, 5, .inl f_gone)), (a_lucky, .inl (cI, 5, .inl f_lucky)), (a_may, .inl (cI, 6, .inl f_may)), (a_sunk, .inl (cZ, 6, .inl f_sunk)), (a_times, .inl (cI, 5, .inl f_times)), (a_voyage, .inl (cI, 6, .inl f_voyage)), (a_whoBore, .inl (cI, 5, .inl f_whoBore))] [(0, .ref a_t), (2, .int v2), (3, .int v3), (4, .int v4), (5, .int v5)] [] 49 := by
    intro fuel_49
    induction fuel_49 with
    | zero => intro v2 v3 v4 v5 f_bears f_borneBy f_due f_gone f_sunk f_times f_whoBore x_t_asked x_t_day x_t_reason h; exact og_0 h
    | succ fuel_49 ih_49 =>
      have cut_163 : ∀ (fuel : Nat) (v2 : Int32) (v3 : Int32) (v4 : Int32) (v5 : Int32) (v6 : Int32) (f_bears : (Nat → Int32)) (f_borneBy : (Nat → Int32)) (f_due : (Nat → Int32)) (f_gone : (Nat → Int32)) (f_sunk : (Nat → Int32)) (f_times : (Nat → Int32)) (f_whoBore : (Nat → Int32)) (x_t_asked : Int32) (x_t_day : Int32) (x_t_reason : Int32), m_X8_winter_163 (m_X8_winter_49 f_lucky f_may f_voyage fuel_49) f_lucky f_may f_voyage fuel v2 v3 v4 v5 v6 f_bears f_borneBy f_due f_gone f_sunk f_times f_whoBore x_t_asked x_t_day x_t_reason = some res → WW p l e (headSpec wsX8_winter ({ frames := 2, cells := 0, slots := 0, locals := 44 } : Room)).room s m args below meth c D A 9 0 0 Q [(a_t, .inr (8, [.ref a_may, .ref a_voyage, .ref a_lucky, .ref b_worths, .ref b_ranks, .int x_t_signs, .ref b_pad, .int x_t_day, .int x_t_reason, .ref a_bears, .ref a_due, .ref a_borneBy, .ref a_gone, .ref a_sunk, .ref a_times, .int x_t_asked, .ref a_whoBore, .ref b_gives, .ref b_best, .ref b_holds, .ref b_refused, .ref b_sums, .ref b_image, .ref b_isKept])), (a_bears, .inl (cI, 6, .inl f_bears)), (a_borneBy, .inl (cI, 5, .inl f_borneBy)), (a_due, .inl (cI, 5, .inl f_due)), (a_gone, .inl (cZ, 5, .inl f_gone)), (a_lucky, .inl (cI, 5, .inl f_lucky)), (a_may, .inl (cI, 6, .inl f_may)), (a_sunk, .inl (cZ, 6, .inl f_sunk)), (a_times, .inl (cI, 5, .inl f_times)), (a_voyage, .inl (cI, 6, .inl f_voyage)), (a_whoBore, .inl (cI, 5, .inl f_whoBore))] [(0, .ref a_t), (2, .int v2), (3, .int v3), (4, .int v4), (5, .int v5), (6, .int v6)] [] 163 := by
        intro fuel_163
        induction fuel_163 with
        | zero => intro v2 v3 v4 v5 v6 f_bears f_borneBy f_due f_gone f_sunk f_times f_whoBore x_t_asked x_t_day x_t_reason h; exact og_0 h
        | succ fuel_163 ih_163 =>
          have cut_221 : ∀ (v2 : Int32) (v3 : Int32) (v4 : Int32) (v5 : Int32) (v6 : Int32) (f_bears : (Nat → Int32)) (f_borneBy : (Nat → Int32)) (f_due : (Nat → Int32)) (f_gone : (Nat → Int32)) (f_sunk : (Nat → Int32)) (f_times : (Nat → Int32)) (f_whoBore : (Nat → Int32)) (x_t_asked : Int32) (x_t_day : Int32) (x_t_reason : Int32), m_X8_winter_221 (m_X8_winter_49 f_lucky f_may f_voyage fuel_49) (m_X8_winter_163 (m_X8_winter_49 f_lucky f_may f_voyage fuel_49) f_lucky f_may f_voyage fuel_163) f_lucky f_may f_voyage v2 v3 v4 v5 v6 f_bears f_borneBy f_due f_gone f_sunk f_times f_whoBore x_t_asked x_t_day x_t_reason = some res → WW p l e (headSpec wsX8_winter ({ frames := 2, cells := 0, slots := 0, locals := 44 } : Room)).room s m args below meth c D A 9 0 0 Q [(a_t, .inr (8, [.ref a_may, .ref a_voyage, .ref a_lucky, .ref b_worths, .ref b_ranks, .int x_t_signs, .ref b_pad, .int x_t_day, .int x_t_reason, .ref a_bears, .ref a_due, .ref a_borneBy, .ref a_gone, .ref a_sunk, .ref a_times, .int x_t_asked, .ref a_whoBore, .ref b_gives, .ref b_best, .ref b_holds, .ref b_refused, .ref b_sums, .ref b_image, .ref b_isKept])), (a_bears, .inl (cI, 6, .inl f_bears)), (a_borneBy, .inl (cI, 5, .inl f_borneBy)), (a_due, .inl (cI, 5, .inl f_due)), (a_gone, .inl (cZ, 5, .inl f_gone)), (a_lucky, .inl (cI, 5, .inl f_lucky)), (a_may, .inl (cI, 6, .inl f_may)), (a_sunk, .inl (cZ, 6, .inl f_sunk)), (a_times, .inl (cI, 5, .inl f_times)), (a_voyage, .inl (cI, 6, .inl f_voyage)), (a_whoBore, .inl (cI, 5, .inl f_whoBore))] [(0, .ref a_t), (2, .int v2), (3, .int v3), (4, .int v4), (5, .int v5), (6, .int v6)] [] 221 := by
            intro v2 v3 v4 v5 v6 f_bears f_borneBy f_due f_gone f_sunk f_times f_whoBore x_t_asked x_t_day x_t_reason h
            replace h : (ogl (v6 + 1) (fun (v6_221 : Int32) => ((m_X8_winter_163 (m_X8_winter_49 f_lucky f_may f_voyage fuel_49) f_lucky f_may f_voyage fuel_163) v2 v3 v4 v5 v6_221 f_bears f_borneBy f_due f_gone f_sunk f_times f_whoBore x_t_asked x_t_day x_t_reason)) : Option (Int32 × ((Nat → Int32) × (Nat → Int32) × (Nat → Int32) × (Nat → Int32) × (Nat → Int32) × (Nat → Int32) × (Nat → Int32) × Int32 × Int32 × Int32))) = some res := h
            obtain ⟨v6_221, ev6_221⟩ : ∃ y : Int32, y = (v6 + 1) := ⟨_, rfl⟩
            refine ww_iinc B dX8_winter_221 5 rfl (v := v6_221) (by rw [ev6_221]; rfl) (by decide) (lv' := [(6, .int v6_221), (0, .ref a_t), (2, .int v2), (3, .int v3), (4, .int v4), (5, .int v5)]) rfl ?_
            replace h := og_l ev6_221 h
            refine ww_goto B 163 dX8_winter_224 (by decide) ?_
            refine ww_lsel (lv' := [(0, .ref a_t), (2, .int v2), (3, .int v3), (4, .int v4), (5, .int v5), (6, .int v6_221)]) [1, 2, 3, 4, 5, 0] rfl ?_
            exact ih_163 _ _ _ _ _ _ _ _ _ _ _ _ _ _ _ h
          intro v2 v3 v4 v5 v6 f_bears f_borneBy f_due f_gone f_sunk f_times f_whoBore x_t_asked x_t_day x_t_reason h
          replace h : (if 6 ≤ v6 then (ogl (v5 + 1) (fun (v5_227 : Int32) => ((m_X8_winter_49 f_lucky f_may f_voyage fuel_49) v2 v3 v4 v5_227 f_bears f_borneBy f_due f_gone f_sunk f_times f_whoBore x_t_asked x_t_day x_t_reason))) else (ogi v6 6 (ogl (f_bears (Int32.toNatClampNeg v6)) (fun (v7_177 : Int32) => if v7_177 < 0 then ((m_X8_winter_221 (m_X8_winter_49 f_lucky f_may f_voyage fuel_49) (m_X8_winter_163 (m_X8_winter_49 f_lucky f_may f_voyage fuel_49) f_lucky f_may f_voyage fuel_163) f_lucky f_may f_voyage v2 v3 v4 v5 v6 f_bears f_borneBy f_due f_gone f_sunk f_times f_whoBore x_t_asked x_t_day x_t_reason)) else (ogl (((75 * v4) + 74) - ((75 * v4) + 74) / 65537 * 65537) (fun (v4_195 : Int32) => ogi v7_177 5 (if (10 - (f_lucky (Int32.toNatClampNeg v7_177))) ≤ (v4_195 - v4_195 / 100 * 100) then ((m_X8_winter_221 (m_X8_winter_49 f_lucky f_may f_voyage fuel_49) (m_X8_winter_163 (m_X8_winter_49 f_lucky f_may f_voyage fuel_49) f_lucky f_may f_voyage fuel_163) f_lucky f_may f_voyage v2 v3 v4_195 v5 v6 f_bears f_borneBy f_due f_gone f_sunk f_times f_whoBore x_t_asked x_t_day x_t_reason)) else (ogb (m_X8_drown f_bears f_borneBy f_gone f_sunk v7_177) (fun q_218 => (m_X8_winter_221 (m_X8_winter_49 f_lucky f_may f_voyage fuel_49) (m_X8_winter_163 (m_X8_winter_49 f_lucky f_may f_voyage fuel_49) f_lucky f_may f_voyage fuel_163) f_lucky f_may f_voyage v2 v3 v4_195 v5 v6 q_218.1 q_218.2.1 f_due q_218.2.2.1 q_218.2.2.2 f_times f_whoBore x_t_asked x_t_day x_t_reason))))))))) : Option (Int32 × ((Nat → Int32) × (Nat → Int32) × (Nat → Int32) × (Nat → Int32) × (Nat → Int32) × (Nat → Int32) × (Nat → Int32) × Int32 × Int32 × Int32))) = some res := h
          refine ww_iload B dX8_winter_163 5 rfl ?_
          refine ww_bipush B dX8_winter_165 (v := 6) (by decide) ?_
          refine ww_icmp_ge B 227 dX8_winter_167 (by decide) (fun c_167 => ?_) (fun c_167 => ?_)
          · replace h := og_t c_167 h
            obtain ⟨v5_227, ev5_227⟩ : ∃ y : Int32, y = (v5 + 1) := ⟨_, rfl⟩
            refine ww_iinc B dX8_winter_227 4 rfl (v := v5_227) (by rw [ev5_227]; rfl) (by decide) (lv' := [(5, .int v5_227), (0, .ref a_t), (2, .int v2), (3, .int v3), (4, .int v4), (6, .int v6)]) rfl ?_
            replace h := og_l ev5_227 h
            refine ww_goto B 49 dX8_winter_230 (by decide) ?_
            refine ww_lsel (lv' := [(0, .ref a_t), (2, .int v2), (3, .int v3), (4, .int v4), (5, .int v5_227)]) [1, 2, 3, 4, 0] rfl ?_
            exact ih_49 _ _ _ _ _ _ _ _ _ _ _ _ _ _ h
          · replace h := og_f c_167 h
            refine ww_aload_n B dX8_winter_170 0 rfl ?_
            refine ww_get (ci := 8) (T := TX8) (C := RX8) (N := 24) B iX8 0 rfl rfl 9 (by decide) (by decide +kernel) rfl rfl dX8_winter_171 ?_
            refine ww_iload B dX8_winter_174 5 rfl ?_
            obtain ⟨i_176, h⟩ := og_i h
            refine ww_iald B 1 rfl i_176 dX8_winter_176 ?_
            refine ww_topi (fun v7_177 ev7_177 => ?_)
            replace h := og_l ev7_177 h
            refine ww_istore B dX8_winter_177 (lv' := [(7, .int v7_177), (0, .ref a_t), (2, .int v2), (3, .int v3), (4, .int v4), (5, .int v5), (6, .int v6)]) (by decide) rfl ?_
            refine ww_iload B dX8_winter_179 0 rfl ?_
            refine ww_if_lt B 221 dX8_winter_181 (by decide) (fun c_181 => ?_) (fun c_181 => ?_)
            · replace h := og_t c_181 h
              refine ww_lsel (lv' := [(0, .ref a_t), (2, .int v2), (3, .int v3), (4, .int v4), (5, .int v5), (6, .int v6)]) [1, 2, 3, 4, 5, 6] rfl ?_
              exact cut_221 _ _ _ _ _ _ _ _ _ _ _ _ _ _ _ h
            · replace h := og_f c_181 h
              refine ww_bipush B dX8_winter_184 (v := 75) (by decide) ?_
              refine ww_iload B dX8_winter_186 4 rfl ?_
              refine ww_imul B dX8_winter_188 ?_
              refine ww_bipush B dX8_winter_189 (v := 74) (by decide) ?_
              refine ww_iadd B dX8_winter_191 ?_
              refine ww_ldc B (v := 65537) (by decide +kernel) dX8_winter_192 ?_
              refine ww_irem B dX8_winter_194 (by decide) ?_
              refine ww_topi (fun v4_195 ev4_195 => ?_)
              replace h := og_l ev4_195 h
              refine ww_istore B dX8_winter_195 (lv' := [(4, .int v4_195), (7, .int v7_177), (0, .ref a_t), (2, .int v2), (3, .int v3), (5, .int v5), (6, .int v6)]) (by decide) rfl ?_
              refine ww_iload B dX8_winter_197 0 rfl ?_
              refine ww_bipush B dX8_winter_199 (v := 100) (by decide) ?_
              refine ww_irem B dX8_winter_201 (by decide) ?_
              refine ww_bipush B dX8_winter_202 (v := 10) (by decide) ?_
              refine ww_aload_n B dX8_winter_204 2 rfl ?_
              refine ww_get (ci := 8) (T := TX8) (C := RX8) (N := 24) B iX8 0 rfl rfl 2 (by decide) (by decide +kernel) rfl rfl dX8_winter_205 ?_
              refine ww_iload B dX8_winter_208 1 rfl ?_
              obtain ⟨i_210, h⟩ := og_i h
              refine ww_iald B 5 rfl i_210 dX8_winter_210 ?_
              refine ww_isub B dX8_winter_211 ?_
              refine ww_icmp_ge B 221 dX8_winter_212 (by decide) (fun c_212 => ?_) (fun c_212 => ?_)
              · replace h := og_t c_212 h
                refine ww_lsel (lv' := [(0, .ref a_t), (2, .int v2), (3, .int v3), (4, .int v4_195), (5, .int v5), (6, .int v6)]) [2, 3, 4, 0, 5, 6] rfl ?_
                exact cut_221 _ _ _ _ _ _ _ _ _ _ _ _ _ _ _ h
              · replace h := og_f c_212 h
                refine ww_aload_n B dX8_winter_215 2 rfl ?_
                refine ww_iload B dX8_winter_216 1 rfl ?_
                obtain ⟨q_218, hq_218, h⟩ := og_b h
                refine ww_cvM B (k' := 0) (n' := 0) rfl rfl [0, 1, 2, 4, 7] [3, 5, 6, 8, 9, 10] (wr := [(a_due, .inl (cI, 5, .inl f_due)), (a_lucky, .inl (cI, 5, .inl f_lucky)), (a_may, .inl (cI, 6, .inl f_may)), (a_times, .inl (cI, 5, .inl f_times)), (a_voyage, .inl (cI, 6, .inl f_voyage)), (a_whoBore, .inl (cI, 5, .inl f_whoBore))]) (st := []) rfl rfl (by decide) (rr_V B (c_X8_drown l D cI cZ a_t a_bears a_borneBy a_gone a_sunk a_may a_voyage a_lucky b_worths b_ranks b_pad a_due a_times a_whoBore b_gives b_best b_holds b_refused b_sums b_image b_isKept f_bears f_borneBy f_gone f_sunk x_t_signs x_t_day x_t_reason x_t_asked v7_177 hq_218) gX8_winter_X8_drown rfl rfl rfl (N := 1) rfl (by decide +kernel) ⟨Nat.le_of_ble_eq_true rfl, Nat.le_of_ble_eq_true rfl⟩ rfl dX8_winter_218 0 rfl rfl (Nat.le_of_ble_eq_true rfl) ⟨Nat.le_of_ble_eq_true rfl, Nat.le_of_ble_eq_true rfl⟩) (ws' := [(a_due, .inl (cI, 5, .inl f_due)), (a_lucky, .inl (cI, 5, .inl f_lucky)), (a_may, .inl (cI, 6, .inl f_may)), (a_times, .inl (cI, 5, .inl f_times)), (a_voyage, .inl (cI, 6, .inl f_voyage)), (a_whoBore, .inl (cI, 5, .inl f_whoBore)), (a_t, .inr (8, [.ref a_may, .ref a_voyage, .ref a_lucky, .ref b_worths, .ref b_ranks, .int x_t_signs, .ref b_pad, .int x_t_day, .int x_t_reason, .ref a_bears, .ref a_due, .ref a_borneBy, .ref a_gone, .ref a_sunk, .ref a_times, .int x_t_asked, .ref a_whoBore, .ref b_gives, .ref b_best, .ref b_holds, .ref b_refused, .ref b_sums, .ref b_image, .ref b_isKept])), (a_bears, .inl (cI, 6, .inl q_218.1)), (a_borneBy, .inl (cI, 5, .inl q_218.2.1)), (a_gone, .inl (cZ, 5, .inl q_218.2.2.1)), (a_sunk, .inl (cZ, 6, .inl q_218.2.2.2))]) rfl ?_
                refine ww_sub (ws' := [(a_t, .inr (8, [.ref a_may, .ref a_voyage, .ref a_lucky, .ref b_worths, .ref b_ranks, .int x_t_signs, .ref b_pad, .int x_t_day, .int x_t_reason, .ref a_bears, .ref a_due, .ref a_borneBy, .ref a_gone, .ref a_sunk, .ref a_times, .int x_t_asked, .ref a_whoBore, .ref b_gives, .ref b_best, .ref b_holds, .ref b_refused, .ref b_sums, .ref b_image, .ref b_isKept])), (a_bears, .inl (cI, 6, .inl q_218.1)), (a_borneBy, .inl (cI, 5, .inl q_218.2.1)), (a_due, .inl (cI, 5, .inl f_due)), (a_gone, .inl (cZ, 5, .inl q_218.2.2.1)), (a_lucky, .inl (cI, 5, .inl f_lucky)), (a_may, .inl (cI, 6, .inl f_may)), (a_sunk, .inl (cZ, 6, .inl q_218.2.2.2)), (a_times, .inl (cI, 5, .inl f_times)), (a_voyage, .inl (cI, 6, .inl f_voyage)), (a_whoBore, .inl (cI, 5, .inl f_whoBore))]) [6, 7, 8, 0, 9, 1, 2, 10, 3, 4, 5] rfl (by decide) ?_
                refine ww_lsel (lv' := [(0, .ref a_t), (2, .int v2), (3, .int v3), (4, .int v4_195), (5, .int v5), (6, .int v6)]) [2, 3, 4, 0, 5, 6] rfl ?_
                exact cut_221 _ _ _ _ _ _ _ _ _ _ _ _ _ _ _ h
      have cut_67 : ∀ (fuel : Nat) (v2 : Int32) (v3 : Int32) (v4 : Int32) (v5 : Int32) (v6 : Int32) (f_bears : (Nat → Int32)) (f_borneBy : (Nat → Int32)) (f_due : (Nat → Int32)) (f_gone : (Nat → Int32)) (f_sunk : (Nat → Int32)) (f_times : (Nat → Int32)) (f_whoBore : (Nat → Int32)) (x_t_asked : Int32) (x_t_day : Int32) (x_t_reason : Int32), m_X8_winter_67 (m_X8_winter_49 f_lucky f_may f_voyage fuel_49) f_lucky f_may f_voyage fuel v2 v3 v4 v5 v6 f_bears f_borneBy f_due f_gone f_sunk f_times f_whoBore x_t_asked x_t_day x_t_reason = some res → WW p l e (headSpec wsX8_winter ({ frames := 2, cells := 0, slots := 0, locals := 44 } : Room)).room s m args below meth c D A 9 0 0 Q [(a_t, .inr (8, [.ref a_may, .ref a_voyage, .ref a_lucky, .ref b_worths, .ref b_ranks, .int x_t_signs, .ref b_pad, .int x_t_day, .int x_t_reason, .ref a_bears, .ref a_due, .ref a_borneBy, .ref a_gone, .ref a_sunk, .ref a_times, .int x_t_asked, .ref a_whoBore, .ref b_gives, .ref b_best, .ref b_holds, .ref b_refused, .ref b_sums, .ref b_image, .ref b_isKept])), (a_bears, .inl (cI, 6, .inl f_bears)), (a_borneBy, .inl (cI, 5, .inl f_borneBy)), (a_due, .inl (cI, 5, .inl f_due)), (a_gone, .inl (cZ, 5, .inl f_gone)), (a_lucky, .inl (cI, 5, .inl f_lucky)), (a_may, .inl (cI, 6, .inl f_may)), (a_sunk, .inl (cZ, 6, .inl f_sunk)), (a_times, .inl (cI, 5, .inl f_times)), (a_voyage, .inl (cI, 6, .inl f_voyage)), (a_whoBore, .inl (cI, 5, .inl f_whoBore))] [(0, .ref a_t), (2, .int v2), (3, .int v3), (4, .int v4), (5, .int v5), (6, .int v6)] [] 67 := by
        intro fuel_67
        induction fuel_67 with
        | zero => intro v2 v3 v4 v5 v6 f_bears f_borneBy f_due f_gone f_sunk f_times f_whoBore x_t_asked x_t_day x_t_reason h; exact og_0 h
        | succ fuel_67 ih_67 =>
          have cut_154 : ∀ (v2 : Int32) (v3 : Int32) (v4 : Int32) (v5 : Int32) (v6 : Int32) (f_bears : (Nat → Int32)) (f_borneBy : (Nat → Int32)) (f_due : (Nat → Int32)) (f_gone : (Nat → Int32)) (f_sunk : (Nat → Int32)) (f_times : (Nat → Int32)) (f_whoBore : (Nat → Int32)) (x_t_asked : Int32) (x_t_day : Int32) (x_t_reason : Int32), m_X8_winter_154 (m_X8_winter_49 f_lucky f_may f_voyage fuel_49) (m_X8_winter_67 (m_X8_winter_49 f_lucky f_may f_voyage fuel_49) f_lucky f_may f_voyage fuel_67) f_lucky f_may f_voyage v2 v3 v4 v5 v6 f_bears f_borneBy f_due f_gone f_sunk f_times f_whoBore x_t_asked x_t_day x_t_reason = some res → WW p l e (headSpec wsX8_winter ({ frames := 2, cells := 0, slots := 0, locals := 44 } : Room)).room s m args below meth c D A 9 0 0 Q [(a_t, .inr (8, [.ref a_may, .ref a_voyage, .ref a_lucky, .ref b_worths, .ref b_ranks, .int x_t_signs, .ref b_pad, .int x_t_day, .int x_t_reason, .ref a_bears, .ref a_due, .ref a_borneBy, .ref a_gone, .ref a_sunk, .ref a_times, .int x_t_asked, .ref a_whoBore, .ref b_gives, .ref b_best, .ref b_holds, .ref b_refused, .ref b_sums, .ref b_image, .ref b_isKept])), (a_bears, .inl (cI, 6, .inl f_bears)), (a_borneBy, .inl (cI, 5, .inl f_borneBy)), (a_due, .inl (cI, 5, .inl f_due)), (a_gone, .inl (cZ, 5, .inl f_gone)), (a_lucky, .inl (cI, 5, .inl f_lucky)), (a_may, .inl (cI, 6, .inl f_may)), (a_sunk, .inl (cZ, 6, .inl f_sunk)), (a_times, .inl (cI, 5, .inl f_times)), (a_voyage, .inl (cI, 6, .inl f_voyage)), (a_whoBore, .inl (cI, 5, .inl f_whoBore))] [(0, .ref a_t), (2, .int v2), (3, .int v3), (4, .int v4), (5, .int v5), (6, .int v6)] [] 154 := by
            intro v2 v3 v4 v5 v6 f_bears f_borneBy f_due f_gone f_sunk f_times f_whoBore x_t_asked x_t_day x_t_reason h
            replace h : (ogl (v6 + 1) (fun (v6_154 : Int32) => ((m_X8_winter_67 (m_X8_winter_49 f_lucky f_may f_voyage fuel_49) f_lucky f_may f_voyage fuel_67) v2 v3 v4 v5 v6_154 f_bears f_borneBy f_due f_gone f_sunk f_times f_whoBore x_t_asked x_t_day x_t_reason)) : Option (Int32 × ((Nat → Int32) × (Nat → Int32) × (Nat → Int32) × (Nat → Int32) × (Nat → Int32) × (Nat → Int32) × (Nat → Int32) × Int32 × Int32 × Int32))) = some res := h
            obtain ⟨v6_154, ev6_154⟩ : ∃ y : Int32, y = (v6 + 1) := ⟨_, rfl⟩
            refine ww_iinc B dX8_winter_154 5 rfl (v := v6_154) (by rw [ev6_154]; rfl) (by decide) (lv' := [(6, .int v6_154), (0, .ref a_t), (2, .int v2), (3, .int v3), (4, .int v4), (5, .int v5)]) rfl ?_
            replace h := og_l ev6_154 h
            refine ww_goto B 67 dX8_winter_157 (by decide) ?_
            refine ww_lsel (lv' := [(0, .ref a_t), (2, .int v2), (3, .int v3), (4, .int v4), (5, .int v5), (6, .int v6_154)]) [1, 2, 3, 4, 5, 0] rfl ?_
            exact ih_67 _ _ _ _ _ _ _ _ _ _ _ _ _ _ _ h
          intro v2 v3 v4 v5 v6 f_bears f_borneBy f_due f_gone f_sunk f_times f_whoBore x_t_asked x_t_day x_t_reason h
          replace h : (if 6 ≤ v6 then ((m_X8_winter_163 (m_X8_winter_49 f_lucky f_may f_voyage fuel_49) f_lucky f_may f_voyage 1000000 v2 v3 v4 v5 0 f_bears f_borneBy f_due f_gone f_sunk f_times f_whoBore x_t_asked x_t_day x_t_reason)) else (ogb (m_X8_leastAtHome f_borneBy f_gone f_may v6) (fun q_77 => ogi v6 6 (if (f_sunk (Int32.toNatClampNeg v6)) = 0 then (ogi v6 6 (if 0 ≤ (f_bears (Int32.toNatClampNeg v6)) then ((m_X8_winter_154 (m_X8_winter_49 f_lucky f_may f_voyage fuel_49) (m_X8_winter_67 (m_X8_winter_49 f_lucky f_may f_voyage fuel_49) f_lucky f_may f_voyage fuel_67) f_lucky f_may f_voyage v2 v3 v4 v5 v6 f_bears f_borneBy f_due f_gone f_sunk f_times f_whoBore x_t_asked x_t_day x_t_reason)) else (ogi v6 6 (if (f_voyage (Int32.toNatClampNeg v6)) ≤ 0 then ((m_X8_winter_154 (m_X8_winter_49 f_lucky f_may f_voyage fuel_49) (m_X8_winter_67 (m_X8_winter_49 f_lucky f_may f_voyage fuel_49) f_lucky f_may f_voyage fuel_67) f_lucky f_may f_voyage v2 v3 v4 v5 v6 f_bears f_borneBy f_due f_gone f_sunk f_times f_whoBore x_t_asked x_t_day x_t_reason)) else (if q_77 < 0 then ((m_X8_winter_154 (m_X8_winter_49 f_lucky f_may f_voyage fuel_49) (m_X8_winter_67 (m_X8_winter_49 f_lucky f_may f_voyage fuel_49) f_lucky f_may f_voyage fuel_67) f_lucky f_may f_voyage v2 v3 v4 v5 v6 f_bears f_borneBy f_due f_gone f_sunk f_times f_whoBore x_t_asked x_t_day x_t_reason)) else (ogi v6 6 (ogi q_77 5 (ogi v6 6 (ogi q_77 5 ((m_X8_winter_154 (m_X8_winter_49 f_lucky f_may f_voyage fuel_49) (m_X8_winter_67 (m_X8_winter_49 f_lucky f_may f_voyage fuel_49) f_lucky f_may f_voyage fuel_67) f_lucky f_may f_voyage v2 v3 v4 v5 v6 (upd f_bears (Int32.toNatClampNeg v6) q_77) (upd f_borneBy (Int32.toNatClampNeg q_77) v6) (upd f_due (Int32.toNatClampNeg q_77) (x_t_day + (f_voyage (Int32.toNatClampNeg v6)))) f_gone f_sunk f_times f_whoBore x_t_asked x_t_day x_t_reason))))))))))) else ((m_X8_winter_154 (m_X8_winter_49 f_lucky f_may f_voyage fuel_49) (m_X8_winter_67 (m_X8_winter_49 f_lucky f_may f_voyage fuel_49) f_lucky f_may f_voyage fuel_67) f_lucky f_may f_voyage v2 v3 v4 v5 v6 f_bears f_borneBy f_due f_gone f_sunk f_times f_whoBore x_t_asked x_t_day x_t_reason))))) : Option (Int32 × ((Nat → Int32) × (Nat → Int32) × (Nat → Int32) × (Nat → Int32) × (Nat → Int32) × (Nat → Int32) × (Nat → Int32) × Int32 × Int32 × Int32))) = some res := h
          refine ww_iload B dX8_winter_67 5 rfl ?_
          refine ww_bipush B dX8_winter_69 (v := 6) (by decide) ?_
          refine ww_icmp_ge B 160 dX8_winter_71 (by decide) (fun c_71 => ?_) (fun c_71 => ?_)
          · replace h := og_t c_71 h
            refine ww_iconst B dX8_winter_160 (v := 0) (by decide) ?_
            refine ww_istore B dX8_winter_161 (lv' := [(6, .int 0), (0, .ref a_t), (2, .int v2), (3, .int v3), (4, .int v4), (5, .int v5)]) (by decide) rfl ?_
            refine ww_lsel (lv' := [(0, .ref a_t), (2, .int v2), (3, .int v3), (4, .int v4), (5, .int v5), (6, .int 0)]) [1, 2, 3, 4, 5, 0] rfl ?_
            exact cut_163 _ _ _ _ _ _ _ _ _ _ _ _ _ _ _ _ h
          · replace h := og_f c_71 h
            refine ww_aload_n B dX8_winter_74 0 rfl ?_
            refine ww_iload B dX8_winter_75 5 rfl ?_
            obtain ⟨q_77, hq_77, h⟩ := og_b h
            refine ww_ci0 B (k' := 0) (n' := 0) rfl rfl [0, 2, 4, 6] [1, 3, 5, 7, 8, 9, 10] (wr := [(a_bears, .inl (cI, 6, .inl f_bears)), (a_due, .inl (cI, 5, .inl f_due)), (a_lucky, .inl (cI, 5, .inl f_lucky)), (a_sunk, .inl (cZ, 6, .inl f_sunk)), (a_times, .inl (cI, 5, .inl f_times)), (a_voyage, .inl (cI, 6, .inl f_voyage)), (a_whoBore, .inl (cI, 5, .inl f_whoBore))]) (st := []) rfl rfl (by decide) (rr_V B (c_X8_leastAtHome l D cI cZ a_t a_borneBy a_gone a_may a_voyage a_lucky b_worths b_ranks b_pad a_bears a_due a_sunk a_times a_whoBore b_gives b_best b_holds b_refused b_sums b_image b_isKept f_borneBy f_gone f_may x_t_signs x_t_day x_t_reason x_t_asked v6 hq_77) gX8_winter_X8_leastAtHome rfl rfl rfl (N := 1) rfl (by decide +kernel) ⟨Nat.le_of_ble_eq_true rfl, Nat.le_of_ble_eq_true rfl⟩ rfl dX8_winter_77 0 rfl rfl (Nat.le_of_ble_eq_true rfl) ⟨Nat.le_of_ble_eq_true rfl, Nat.le_of_ble_eq_true rfl⟩) (ws' := [(a_bears, .inl (cI, 6, .inl f_bears)), (a_due, .inl (cI, 5, .inl f_due)), (a_lucky, .inl (cI, 5, .inl f_lucky)), (a_sunk, .inl (cZ, 6, .inl f_sunk)), (a_times, .inl (cI, 5, .inl f_times)), (a_voyage, .inl (cI, 6, .inl f_voyage)), (a_whoBore, .inl (cI, 5, .inl f_whoBore)), (a_t, .inr (8, [.ref a_may, .ref a_voyage, .ref a_lucky, .ref b_worths, .ref b_ranks, .int x_t_signs, .ref b_pad, .int x_t_day, .int x_t_reason, .ref a_bears, .ref a_due, .ref a_borneBy, .ref a_gone, .ref a_sunk, .ref a_times, .int x_t_asked, .ref a_whoBore, .ref b_gives, .ref b_best, .ref b_holds, .ref b_refused, .ref b_sums, .ref b_image, .ref b_isKept])), (a_borneBy, .inl (cI, 5, .inl f_borneBy)), (a_gone, .inl (cZ, 5, .inl f_gone)), (a_may, .inl (cI, 6, .inl f_may))]) rfl ?_
            refine ww_istore B dX8_winter_80 (lv' := [(7, .int q_77), (0, .ref a_t), (2, .int v2), (3, .int v3), (4, .int v4), (5, .int v5), (6, .int v6)]) (by decide) rfl ?_
            refine ww_aload_n B dX8_winter_82 1 rfl ?_
            refine ww_get (ci := 8) (T := TX8) (C := RX8) (N := 24) B iX8 7 rfl rfl 13 (by decide) (by decide +kernel) rfl rfl dX8_winter_83 ?_
            refine ww_iload B dX8_winter_86 6 rfl ?_
            obtain ⟨i_88, h⟩ := og_i h
            refine ww_zald B 3 rfl i_88 dX8_winter_88 ?_
            refine ww_if_ne B 154 dX8_winter_89 (by decide) (fun c_89 => ?_) (fun c_89 => ?_)
            · replace h := og_f c_89 h
              refine ww_sub (ws' := [(a_t, .inr (8, [.ref a_may, .ref a_voyage, .ref a_lucky, .ref b_worths, .ref b_ranks, .int x_t_signs, .ref b_pad, .int x_t_day, .int x_t_reason, .ref a_bears, .ref a_due, .ref a_borneBy, .ref a_gone, .ref a_sunk, .ref a_times, .int x_t_asked, .ref a_whoBore, .ref b_gives, .ref b_best, .ref b_holds, .ref b_refused, .ref b_sums, .ref b_image, .ref b_isKept])), (a_bears, .inl (cI, 6, .inl f_bears)), (a_borneBy, .inl (cI, 5, .inl f_borneBy)), (a_due, .inl (cI, 5, .inl f_due)), (a_gone, .inl (cZ, 5, .inl f_gone)), (a_lucky, .inl (cI, 5, .inl f_lucky)), (a_may, .inl (cI, 6, .inl f_may)), (a_sunk, .inl (cZ, 6, .inl f_sunk)), (a_times, .inl (cI, 5, .inl f_times)), (a_voyage, .inl (cI, 6, .inl f_voyage)), (a_whoBore, .inl (cI, 5, .inl f_whoBore))]) [7, 0, 8, 1, 9, 2, 10, 3, 4, 5, 6] rfl (by decide) ?_
              refine ww_lsel (lv' := [(0, .ref a_t), (2, .int v2), (3, .int v3), (4, .int v4), (5, .int v5), (6, .int v6)]) [1, 2, 3, 4, 5, 6] rfl ?_
              exact cut_154 _ _ _ _ _ _ _ _ _ _ _ _ _ _ _ h
            · replace h := og_t c_89 h
              refine ww_aload_n B dX8_winter_92 1 rfl ?_
              refine ww_get (ci := 8) (T := TX8) (C := RX8) (N := 24) B iX8 7 rfl rfl 9 (by decide) (by decide +kernel) rfl rfl dX8_winter_93 ?_
              refine ww_iload B dX8_winter_96 6 rfl ?_
              obtain ⟨i_98, h⟩ := og_i h
              refine ww_iald B 0 rfl i_98 dX8_winter_98 ?_
              refine ww_if_ge B 154 dX8_winter_99 (by decide) (fun c_99 => ?_) (fun c_99 => ?_)
              · replace h := og_t c_99 h
                refine ww_sub (ws' := [(a_t, .inr (8, [.ref a_may, .ref a_voyage, .ref a_lucky, .ref b_worths, .ref b_ranks, .int x_t_signs, .ref b_pad, .int x_t_day, .int x_t_reason, .ref a_bears, .ref a_due, .ref a_borneBy, .ref a_gone, .ref a_sunk, .ref a_times, .int x_t_asked, .ref a_whoBore, .ref b_gives, .ref b_best, .ref b_holds, .ref b_refused, .ref b_sums, .ref b_image, .ref b_isKept])), (a_bears, .inl (cI, 6, .inl f_bears)), (a_borneBy, .inl (cI, 5, .inl f_borneBy)), (a_due, .inl (cI, 5, .inl f_due)), (a_gone, .inl (cZ, 5, .inl f_gone)), (a_lucky, .inl (cI, 5, .inl f_lucky)), (a_may, .inl (cI, 6, .inl f_may)), (a_sunk, .inl (cZ, 6, .inl f_sunk)), (a_times, .inl (cI, 5, .inl f_times)), (a_voyage, .inl (cI, 6, .inl f_voyage)), (a_whoBore, .inl (cI, 5, .inl f_whoBore))]) [7, 0, 8, 1, 9, 2, 10, 3, 4, 5, 6] rfl (by decide) ?_
                refine ww_lsel (lv' := [(0, .ref a_t), (2, .int v2), (3, .int v3), (4, .int v4), (5, .int v5), (6, .int v6)]) [1, 2, 3, 4, 5, 6] rfl ?_
                exact cut_154 _ _ _ _ _ _ _ _ _ _ _ _ _ _ _ h
              · replace h := og_f c_99 h
                refine ww_aload_n B dX8_winter_102 1 rfl ?_
                refine ww_get (ci := 8) (T := TX8) (C := RX8) (N := 24) B iX8 7 rfl rfl 1 (by decide) (by decide +kernel) rfl rfl dX8_winter_103 ?_
                refine ww_iload B dX8_winter_106 6 rfl ?_
                obtain ⟨i_108, h⟩ := og_i h
                refine ww_iald B 5 rfl i_108 dX8_winter_108 ?_
                refine ww_if_le B 154 dX8_winter_109 (by decide) (fun c_109 => ?_) (fun c_109 => ?_)
                · replace h := og_t c_109 h
                  refine ww_sub (ws' := [(a_t, .inr (8, [.ref a_may, .ref a_voyage, .ref a_lucky, .ref b_worths, .ref b_ranks, .int x_t_signs, .ref b_pad, .int x_t_day, .int x_t_reason, .ref a_bears, .ref a_due, .ref a_borneBy, .ref a_gone, .ref a_sunk, .ref a_times, .int x_t_asked, .ref a_whoBore, .ref b_gives, .ref b_best, .ref b_holds, .ref b_refused, .ref b_sums, .ref b_image, .ref b_isKept])), (a_bears, .inl (cI, 6, .inl f_bears)), (a_borneBy, .inl (cI, 5, .inl f_borneBy)), (a_due, .inl (cI, 5, .inl f_due)), (a_gone, .inl (cZ, 5, .inl f_gone)), (a_lucky, .inl (cI, 5, .inl f_lucky)), (a_may, .inl (cI, 6, .inl f_may)), (a_sunk, .inl (cZ, 6, .inl f_sunk)), (a_times, .inl (cI, 5, .inl f_times)), (a_voyage, .inl (cI, 6, .inl f_voyage)), (a_whoBore, .inl (cI, 5, .inl f_whoBore))]) [7, 0, 8, 1, 9, 2, 10, 3, 4, 5, 6] rfl (by decide) ?_
                  refine ww_lsel (lv' := [(0, .ref a_t), (2, .int v2), (3, .int v3), (4, .int v4), (5, .int v5), (6, .int v6)]) [1, 2, 3, 4, 5, 6] rfl ?_
                  exact cut_154 _ _ _ _ _ _ _ _ _ _ _ _ _ _ _ h
                · replace h := og_f c_109 h
                  refine ww_iload B dX8_winter_112 0 rfl ?_
                  refine ww_if_lt B 154 dX8_winter_114 (by decide) (fun c_114 => ?_) (fun c_114 => ?_)
                  · replace h := og_t c_114 h
                    refine ww_sub (ws' := [(a_t, .inr (8, [.ref a_may, .ref a_voyage, .ref a_lucky, .ref b_worths, .ref b_ranks, .int x_t_signs, .ref b_pad, .int x_t_day, .int x_t_reason, .ref a_bears, .ref a_due, .ref a_borneBy, .ref a_gone, .ref a_sunk, .ref a_times, .int x_t_asked, .ref a_whoBore, .ref b_gives, .ref b_best, .ref b_holds, .ref b_refused, .ref b_sums, .ref b_image, .ref b_isKept])), (a_bears, .inl (cI, 6, .inl f_bears)), (a_borneBy, .inl (cI, 5, .inl f_borneBy)), (a_due, .inl (cI, 5, .inl f_due)), (a_gone, .inl (cZ, 5, .inl f_gone)), (a_lucky, .inl (cI, 5, .inl f_lucky)), (a_may, .inl (cI, 6, .inl f_may)), (a_sunk, .inl (cZ, 6, .inl f_sunk)), (a_times, .inl (cI, 5, .inl f_times)), (a_voyage, .inl (cI, 6, .inl f_voyage)), (a_whoBore, .inl (cI, 5, .inl f_whoBore))]) [7, 0, 8, 1, 9, 2, 10, 3, 4, 5, 6] rfl (by decide) ?_
                    refine ww_lsel (lv' := [(0, .ref a_t), (2, .int v2), (3, .int v3), (4, .int v4), (5, .int v5), (6, .int v6)]) [1, 2, 3, 4, 5, 6] rfl ?_
                    exact cut_154 _ _ _ _ _ _ _ _ _ _ _ _ _ _ _ h
                  · replace h := og_f c_114 h
                    refine ww_aload_n B dX8_winter_117 1 rfl ?_
                    refine ww_get (ci := 8) (T := TX8) (C := RX8) (N := 24) B iX8 7 rfl rfl 9 (by decide) (by decide +kernel) rfl rfl dX8_winter_118 ?_
                    refine ww_iload B dX8_winter_121 6 rfl ?_
                    refine ww_iload B dX8_winter_123 0 rfl ?_
                    obtain ⟨i_125, h⟩ := og_i h
                    refine ww_iast B 0 rfl i_125 dX8_winter_125 (ws' := [(a_bears, .inl (cI, 6, .inl (upd f_bears (Int32.toNatClampNeg v6) q_77))), (a_due, .inl (cI, 5, .inl f_due)), (a_lucky, .inl (cI, 5, .inl f_lucky)), (a_sunk, .inl (cZ, 6, .inl f_sunk)), (a_times, .inl (cI, 5, .inl f_times)), (a_voyage, .inl (cI, 6, .inl f_voyage)), (a_whoBore, .inl (cI, 5, .inl f_whoBore)), (a_t, .inr (8, [.ref a_may, .ref a_voyage, .ref a_lucky, .ref b_worths, .ref b_ranks, .int x_t_signs, .ref b_pad, .int x_t_day, .int x_t_reason, .ref a_bears, .ref a_due, .ref a_borneBy, .ref a_gone, .ref a_sunk, .ref a_times, .int x_t_asked, .ref a_whoBore, .ref b_gives, .ref b_best, .ref b_holds, .ref b_refused, .ref b_sums, .ref b_image, .ref b_isKept])), (a_borneBy, .inl (cI, 5, .inl f_borneBy)), (a_gone, .inl (cZ, 5, .inl f_gone)), (a_may, .inl (cI, 6, .inl f_may))]) rfl ?_
                    refine ww_aload_n B dX8_winter_126 1 rfl ?_
                    refine ww_get (ci := 8) (T := TX8) (C := RX8) (N := 24) B iX8 7 rfl rfl 11 (by decide) (by decide +kernel) rfl rfl dX8_winter_127 ?_
                    refine ww_iload B dX8_winter_130 0 rfl ?_
                    refine ww_iload B dX8_winter_132 6 rfl ?_
                    obtain ⟨i_134, h⟩ := og_i h
                    refine ww_iast B 8 rfl i_134 dX8_winter_134 (ws' := [(a_bears, .inl (cI, 6, .inl (upd f_bears (Int32.toNatClampNeg v6) q_77))), (a_due, .inl (cI, 5, .inl f_due)), (a_lucky, .inl (cI, 5, .inl f_lucky)), (a_sunk, .inl (cZ, 6, .inl f_sunk)), (a_times, .inl (cI, 5, .inl f_times)), (a_voyage, .inl (cI, 6, .inl f_voyage)), (a_whoBore, .inl (cI, 5, .inl f_whoBore)), (a_t, .inr (8, [.ref a_may, .ref a_voyage, .ref a_lucky, .ref b_worths, .ref b_ranks, .int x_t_signs, .ref b_pad, .int x_t_day, .int x_t_reason, .ref a_bears, .ref a_due, .ref a_borneBy, .ref a_gone, .ref a_sunk, .ref a_times, .int x_t_asked, .ref a_whoBore, .ref b_gives, .ref b_best, .ref b_holds, .ref b_refused, .ref b_sums, .ref b_image, .ref b_isKept])), (a_borneBy, .inl (cI, 5, .inl (upd f_borneBy (Int32.toNatClampNeg q_77) v6))), (a_gone, .inl (cZ, 5, .inl f_gone)), (a_may, .inl (cI, 6, .inl f_may))]) rfl ?_
                    refine ww_aload_n B dX8_winter_135 1 rfl ?_
                    refine ww_get (ci := 8) (T := TX8) (C := RX8) (N := 24) B iX8 7 rfl rfl 10 (by decide) (by decide +kernel) rfl rfl dX8_winter_136 ?_
                    refine ww_iload B dX8_winter_139 0 rfl ?_
                    refine ww_aload_n B dX8_winter_141 1 rfl ?_
                    refine ww_get (ci := 8) (T := TX8) (C := RX8) (N := 24) B iX8 7 rfl rfl 7 (by decide) (by decide +kernel) rfl rfl dX8_winter_142 ?_
                    refine ww_aload_n B dX8_winter_145 1 rfl ?_
                    refine ww_get (ci := 8) (T := TX8) (C := RX8) (N := 24) B iX8 7 rfl rfl 1 (by decide) (by decide +kernel) rfl rfl dX8_winter_146 ?_
                    refine ww_iload B dX8_winter_149 6 rfl ?_
                    obtain ⟨i_151, h⟩ := og_i h
                    refine ww_iald B 5 rfl i_151 dX8_winter_151 ?_
                    refine ww_iadd B dX8_winter_152 ?_
                    obtain ⟨i_153, h⟩ := og_i h
                    refine ww_iast B 1 rfl i_153 dX8_winter_153 (ws' := [(a_bears, .inl (cI, 6, .inl (upd f_bears (Int32.toNatClampNeg v6) q_77))), (a_due, .inl (cI, 5, .inl (upd f_due (Int32.toNatClampNeg q_77) (x_t_day + (f_voyage (Int32.toNatClampNeg v6)))))), (a_lucky, .inl (cI, 5, .inl f_lucky)), (a_sunk, .inl (cZ, 6, .inl f_sunk)), (a_times, .inl (cI, 5, .inl f_times)), (a_voyage, .inl (cI, 6, .inl f_voyage)), (a_whoBore, .inl (cI, 5, .inl f_whoBore)), (a_t, .inr (8, [.ref a_may, .ref a_voyage, .ref a_lucky, .ref b_worths, .ref b_ranks, .int x_t_signs, .ref b_pad, .int x_t_day, .int x_t_reason, .ref a_bears, .ref a_due, .ref a_borneBy, .ref a_gone, .ref a_sunk, .ref a_times, .int x_t_asked, .ref a_whoBore, .ref b_gives, .ref b_best, .ref b_holds, .ref b_refused, .ref b_sums, .ref b_image, .ref b_isKept])), (a_borneBy, .inl (cI, 5, .inl (upd f_borneBy (Int32.toNatClampNeg q_77) v6))), (a_gone, .inl (cZ, 5, .inl f_gone)), (a_may, .inl (cI, 6, .inl f_may))]) rfl ?_
                    refine ww_sub (ws' := [(a_t, .inr (8, [.ref a_may, .ref a_voyage, .ref a_lucky, .ref b_worths, .ref b_ranks, .int x_t_signs, .ref b_pad, .int x_t_day, .int x_t_reason, .ref a_bears, .ref a_due, .ref a_borneBy, .ref a_gone, .ref a_sunk, .ref a_times, .int x_t_asked, .ref a_whoBore, .ref b_gives, .ref b_best, .ref b_holds, .ref b_refused, .ref b_sums, .ref b_image, .ref b_isKept])), (a_bears, .inl (cI, 6, .inl (upd f_bears (Int32.toNatClampNeg v6) q_77))), (a_borneBy, .inl (cI, 5, .inl (upd f_borneBy (Int32.toNatClampNeg q_77) v6))), (a_due, .inl (cI, 5, .inl (upd f_due (Int32.toNatClampNeg q_77) (x_t_day + (f_voyage (Int32.toNatClampNeg v6)))))), (a_gone, .inl (cZ, 5, .inl f_gone)), (a_lucky, .inl (cI, 5, .inl f_lucky)), (a_may, .inl (cI, 6, .inl f_may)), (a_sunk, .inl (cZ, 6, .inl f_sunk)), (a_times, .inl (cI, 5, .inl f_times)), (a_voyage, .inl (cI, 6, .inl f_voyage)), (a_whoBore, .inl (cI, 5, .inl f_whoBore))]) [7, 0, 8, 1, 9, 2, 10, 3, 4, 5, 6] rfl (by decide) ?_
                    refine ww_lsel (lv' := [(0, .ref a_t), (2, .int v2), (3, .int v3), (4, .int v4), (5, .int v5), (6, .int v6)]) [1, 2, 3, 4, 5, 6] rfl ?_
                    exact cut_154 _ _ _ _ _ _ _ _ _ _ _ _ _ _ _ h
      have cut_64 : ∀ (v2 : Int32) (v3 : Int32) (v4 : Int32) (v5 : Int32) (f_bears : (Nat → Int32)) (f_borneBy : (Nat → Int32)) (f_due : (Nat → Int32)) (f_gone : (Nat → Int32)) (f_sunk : (Nat → Int32)) (f_times : (Nat → Int32)) (f_whoBore : (Nat → Int32)) (x_t_asked : Int32) (x_t_day : Int32) (x_t_reason : Int32), m_X8_winter_64 (m_X8_winter_49 f_lucky f_may f_voyage fuel_49) f_lucky f_may f_voyage v2 v3 v4 v5 f_bears f_borneBy f_due f_gone f_sunk f_times f_whoBore x_t_asked x_t_day x_t_reason = some res → WW p l e (headSpec wsX8_winter ({ frames := 2, cells := 0, slots := 0, locals := 44 } : Room)).room s m args below meth c D A 9 0 0 Q [(a_t, .inr (8, [.ref a_may, .ref a_voyage, .ref a_lucky, .ref b_worths, .ref b_ranks, .int x_t_signs, .ref b_pad, .int x_t_day, .int x_t_reason, .ref a_bears, .ref a_due, .ref a_borneBy, .ref a_gone, .ref a_sunk, .ref a_times, .int x_t_asked, .ref a_whoBore, .ref b_gives, .ref b_best, .ref b_holds, .ref b_refused, .ref b_sums, .ref b_image, .ref b_isKept])), (a_bears, .inl (cI, 6, .inl f_bears)), (a_borneBy, .inl (cI, 5, .inl f_borneBy)), (a_due, .inl (cI, 5, .inl f_due)), (a_gone, .inl (cZ, 5, .inl f_gone)), (a_lucky, .inl (cI, 5, .inl f_lucky)), (a_may, .inl (cI, 6, .inl f_may)), (a_sunk, .inl (cZ, 6, .inl f_sunk)), (a_times, .inl (cI, 5, .inl f_times)), (a_voyage, .inl (cI, 6, .inl f_voyage)), (a_whoBore, .inl (cI, 5, .inl f_whoBore))] [(0, .ref a_t), (2, .int v2), (3, .int v3), (4, .int v4), (5, .int v5)] [] 64 := by
        intro v2 v3 v4 v5 f_bears f_borneBy f_due f_gone f_sunk f_times f_whoBore x_t_asked x_t_day x_t_reason h
        replace h : ((m_X8_winter_67 (m_X8_winter_49 f_lucky f_may f_voyage fuel_49) f_lucky f_may f_voyage 1000000 v2 v3 v4 v5 0 f_bears f_borneBy f_due f_gone f_sunk f_times f_whoBore x_t_asked x_t_day x_t_reason) : Option (Int32 × ((Nat → Int32) × (Nat → Int32) × (Nat → Int32) × (Nat → Int32) × (Nat → Int32) × (Nat → Int32) × (Nat → Int32) × Int32 × Int32 × Int32))) = some res := h
        refine ww_iconst B dX8_winter_64 (v := 0) (by decide) ?_
        refine ww_istore B dX8_winter_65 (lv' := [(6, .int 0), (0, .ref a_t), (2, .int v2), (3, .int v3), (4, .int v4), (5, .int v5)]) (by decide) rfl ?_
        refine ww_lsel (lv' := [(0, .ref a_t), (2, .int v2), (3, .int v3), (4, .int v4), (5, .int v5), (6, .int 0)]) [1, 2, 3, 4, 5, 0] rfl ?_
        exact cut_67 _ _ _ _ _ _ _ _ _ _ _ _ _ _ _ _ h
      intro v2 v3 v4 v5 f_bears f_borneBy f_due f_gone f_sunk f_times f_whoBore x_t_asked x_t_day x_t_reason h
      replace h : (if v2 ≤ v5 then ((m_X8_winter_245 f_lucky f_may f_voyage 1000000 v3 0 0 0 0 f_bears f_borneBy f_due f_gone f_sunk f_times f_whoBore x_t_asked x_t_day x_t_reason)) else (if v5 ≤ 0 then ((m_X8_winter_64 (m_X8_winter_49 f_lucky f_may f_voyage fuel_49) f_lucky f_may f_voyage v2 v3 v4 v5 f_bears f_borneBy f_due f_gone f_sunk f_times f_whoBore x_t_asked x_t_day x_t_reason)) else (ogb (m_X8_nextDay f_due x_t_asked f_bears f_borneBy f_times f_whoBore x_t_day) (fun q_61 => (m_X8_winter_64 (m_X8_winter_49 f_lucky f_may f_voyage fuel_49) f_lucky f_may f_voyage v2 v3 v4 v5 q_61.1 q_61.2.1 f_due f_gone f_sunk q_61.2.2.1 q_61.2.2.2.1 x_t_asked q_61.2.2.2.2 x_t_reason)))) : Option (Int32 × ((Nat → Int32) × (Nat → Int32) × (Nat → Int32) × (Nat → Int32) × (Nat → Int32) × (Nat → Int32) × (Nat → Int32) × Int32 × Int32 × Int32))) = some res := h
      refine ww_iload B dX8_winter_49 4 rfl ?_
      refine ww_iload_n B dX8_winter_51 1 rfl ?_
      refine ww_icmp_ge B 233 dX8_winter_52 (by decide) (fun c_52 => ?_) (fun c_52 => ?_)
      · replace h := og_t c_52 h
        refine ww_iconst B dX8_winter_233 (v := 0) (by decide) ?_
        refine ww_istore B dX8_winter_234 (lv' := [(5, .int 0), (0, .ref a_t), (2, .int v2), (3, .int v3), (4, .int v4)]) (by decide) rfl ?_
        refine ww_iconst B dX8_winter_236 (v := 0) (by decide) ?_
        refine ww_istore B dX8_winter_237 (lv' := [(6, .int 0), (5, .int 0), (0, .ref a_t), (2, .int v2), (3, .int v3), (4, .int v4)]) (by decide) rfl ?_
        refine ww_iconst B dX8_winter_239 (v := 0) (by decide) ?_
        refine ww_istore B dX8_winter_240 (lv' := [(7, .int 0), (6, .int 0), (5, .int 0), (0, .ref a_t), (2, .int v2), (3, .int v3), (4, .int v4)]) (by decide) rfl ?_
        refine ww_iconst B dX8_winter_242 (v := 0) (by decide) ?_
        refine ww_istore B dX8_winter_243 (lv' := [(8, .int 0), (7, .int 0), (6, .int 0), (5, .int 0), (0, .ref a_t), (2, .int v2), (3, .int v3), (4, .int v4)]) (by decide) rfl ?_
        refine ww_lsel (lv' := [(0, .ref a_t), (3, .int v3), (5, .int 0), (6, .int 0), (7, .int 0), (8, .int 0)]) [4, 6, 3, 2, 1, 0] rfl ?_
        exact cut_245 _ _ _ _ _ _ _ _ _ _ _ _ _ _ _ _ h
      · replace h := og_f c_52 h
        refine ww_iload B dX8_winter_55 4 rfl ?_
        refine ww_if_le B 64 dX8_winter_57 (by decide) (fun c_57 => ?_) (fun c_57 => ?_)
        · replace h := og_t c_57 h
          exact cut_64 _ _ _ _ _ _ _ _ _ _ _ _ _ _ h
        · replace h := og_f c_57 h
          refine ww_aload_n B dX8_winter_60 0 rfl ?_
          obtain ⟨q_61, hq_61, h⟩ := og_b h
          refine ww_cvM B (k' := 0) (n' := 0) rfl rfl [0, 1, 2, 3, 8, 10] [4, 5, 6, 7, 9] (wr := [(a_gone, .inl (cZ, 5, .inl f_gone)), (a_lucky, .inl (cI, 5, .inl f_lucky)), (a_may, .inl (cI, 6, .inl f_may)), (a_sunk, .inl (cZ, 6, .inl f_sunk)), (a_voyage, .inl (cI, 6, .inl f_voyage))]) (st := []) rfl rfl (by decide) (rr_V B (c_X8_nextDay l D cI cZ a_t a_bears a_borneBy a_due a_times a_whoBore a_may a_voyage a_lucky b_worths b_ranks b_pad a_gone a_sunk b_gives b_best b_holds b_refused b_sums b_image b_isKept f_bears f_borneBy f_due f_times f_whoBore x_t_signs x_t_day x_t_reason x_t_asked hq_61) gX8_winter_X8_nextDay rfl rfl rfl (N := 0) rfl (by decide +kernel) ⟨Nat.le_of_ble_eq_true rfl, Nat.le_of_ble_eq_true rfl⟩ rfl dX8_winter_61 0 rfl rfl (Nat.le_of_ble_eq_true rfl) ⟨Nat.le_of_ble_eq_true rfl, Nat.le_of_ble_eq_true rfl⟩) (ws' := [(a_gone, .inl (cZ, 5, .inl f_gone)), (a_lucky, .inl (cI, 5, .inl f_lucky)), (a_may, .inl (cI, 6, .inl f_may)), (a_sunk, .inl (cZ, 6, .inl f_sunk)), (a_voyage, .inl (cI, 6, .inl f_voyage)), (a_t, .inr (8, [.ref a_may, .ref a_voyage, .ref a_lucky, .ref b_worths, .ref b_ranks, .int x_t_signs, .ref b_pad, .int q_61.2.2.2.2, .int x_t_reason, .ref a_bears, .ref a_due, .ref a_borneBy, .ref a_gone, .ref a_sunk, .ref a_times, .int x_t_asked, .ref a_whoBore, .ref b_gives, .ref b_best, .ref b_holds, .ref b_refused, .ref b_sums, .ref b_image, .ref b_isKept])), (a_bears, .inl (cI, 6, .inl q_61.1)), (a_borneBy, .inl (cI, 5, .inl q_61.2.1)), (a_due, .inl (cI, 5, .inl f_due)), (a_times, .inl (cI, 5, .inl q_61.2.2.1)), (a_whoBore, .inl (cI, 5, .inl q_61.2.2.2.1))]) rfl ?_
          refine ww_sub (ws' := [(a_t, .inr (8, [.ref a_may, .ref a_voyage, .ref a_lucky, .ref b_worths, .ref b_ranks, .int x_t_signs, .ref b_pad, .int q_61.2.2.2.2, .int x_t_reason, .ref a_bears, .ref a_due, .ref a_borneBy, .ref a_gone, .ref a_sunk, .ref a_times, .int x_t_asked, .ref a_whoBore, .ref b_gives, .ref b_best, .ref b_holds, .ref b_refused, .ref b_sums, .ref b_image, .ref b_isKept])), (a_bears, .inl (cI, 6, .inl q_61.1)), (a_borneBy, .inl (cI, 5, .inl q_61.2.1)), (a_due, .inl (cI, 5, .inl f_due)), (a_gone, .inl (cZ, 5, .inl f_gone)), (a_lucky, .inl (cI, 5, .inl f_lucky)), (a_may, .inl (cI, 6, .inl f_may)), (a_sunk, .inl (cZ, 6, .inl f_sunk)), (a_times, .inl (cI, 5, .inl q_61.2.2.1)), (a_voyage, .inl (cI, 6, .inl f_voyage)), (a_whoBore, .inl (cI, 5, .inl q_61.2.2.2.1))]) [5, 6, 7, 8, 0, 1, 2, 3, 9, 4, 10] rfl (by decide) ?_
          exact cut_64 _ _ _ _ _ _ _ _ _ _ _ _ _ _ h
  refine ww_iload_n B dX8_winter_0 1 rfl ?_
  refine ww_iconst B dX8_winter_1 (v := 0) (by decide) ?_
  refine ww_sipush B dX8_winter_2 (v := 9999) (by decide) ?_
  obtain ⟨q_5, hq_5, h⟩ := og_b h
  refine ww_ci0 B (k' := 0) (n' := 0) rfl rfl [] [0, 1, 2, 3, 4, 5, 6, 7, 8, 9, 10] (wr := [(a_t, .inr (8, [.ref a_may, .ref a_voyage, .ref a_lucky, .ref b_worths, .ref b_ranks, .int x_t_signs, .ref b_pad, .int x_t_day, .int x_t_reason, .ref a_bears, .ref a_due, .ref a_borneBy, .ref a_gone, .ref a_sunk, .ref a_times, .int x_t_asked, .ref a_whoBore, .ref b_gives, .ref b_best, .ref b_holds, .ref b_refused, .ref b_sums, .ref b_image, .ref b_isKept])), (a_bears, .inl (cI, 6, .inl f_bears)), (a_borneBy, .inl (cI, 5, .inl f_borneBy)), (a_due, .inl (cI, 5, .inl f_due)), (a_gone, .inl (cZ, 5, .inl f_gone)), (a_lucky, .inl (cI, 5, .inl f_lucky)), (a_may, .inl (cI, 6, .inl f_may)), (a_sunk, .inl (cZ, 6, .inl f_sunk)), (a_times, .inl (cI, 5, .inl f_times)), (a_voyage, .inl (cI, 6, .inl f_voyage)), (a_whoBore, .inl (cI, 5, .inl f_whoBore))]) (st := []) rfl rfl (by decide) (rr_S B (c_X8_in l D cI cZ v1 0 9999 hq_5) gX8_winter_X8_in rfl rfl rfl (N := 3) rfl (by decide +kernel) ⟨Nat.le_of_ble_eq_true rfl, Nat.le_of_ble_eq_true rfl⟩ rfl dX8_winter_5 (Nat.le_of_ble_eq_true rfl) ⟨Nat.le_of_ble_eq_true rfl, Nat.le_of_ble_eq_true rfl⟩) (ws' := [(a_t, .inr (8, [.ref a_may, .ref a_voyage, .ref a_lucky, .ref b_worths, .ref b_ranks, .int x_t_signs, .ref b_pad, .int x_t_day, .int x_t_reason, .ref a_bears, .ref a_due, .ref a_borneBy, .ref a_gone, .ref a_sunk, .ref a_times, .int x_t_asked, .ref a_whoBore, .ref b_gives, .ref b_best, .ref b_holds, .ref b_refused, .ref b_sums, .ref b_image, .ref b_isKept])), (a_bears, .inl (cI, 6, .inl f_bears)), (a_borneBy, .inl (cI, 5, .inl f_borneBy)), (a_due, .inl (cI, 5, .inl f_due)), (a_gone, .inl (cZ, 5, .inl f_gone)), (a_lucky, .inl (cI, 5, .inl f_lucky)), (a_may, .inl (cI, 6, .inl f_may)), (a_sunk, .inl (cZ, 6, .inl f_sunk)), (a_times, .inl (cI, 5, .inl f_times)), (a_voyage, .inl (cI, 6, .inl f_voyage)), (a_whoBore, .inl (cI, 5, .inl f_whoBore))]) rfl ?_
  refine ww_if_eq B 30 dX8_winter_8 (by decide) (fun c_8 => ?_) (fun c_8 => ?_)
  · replace h := og_t c_8 h
    refine ww_bipush B dX8_winter_30 (v := (-2)) (by decide) ?_
    exact ww_iret B hA hQ hr dX8_winter_32 (f_bears, f_borneBy, f_due, f_gone, f_sunk, f_times, f_whoBore, x_t_asked, x_t_day, x_t_reason) [0, 1, 2, 3, 4, 5, 6, 7, 8, 9, 10] rfl (by decide) (og_p h)
  · replace h := og_f c_8 h
    refine ww_iload_n B dX8_winter_11 2 rfl ?_
    refine ww_iconst B dX8_winter_12 (v := 1) (by decide) ?_
    refine ww_bipush B dX8_winter_13 (v := 60) (by decide) ?_
    obtain ⟨q_15, hq_15, h⟩ := og_b h
    refine ww_ci0 B (k' := 0) (n' := 0) rfl rfl [] [0, 1, 2, 3, 4, 5, 6, 7, 8, 9, 10] (wr := [(a_t, .inr (8, [.ref a_may, .ref a_voyage, .ref a_lucky, .ref b_worths, .ref b_ranks, .int x_t_signs, .ref b_pad, .int x_t_day, .int x_t_reason, .ref a_bears, .ref a_due, .ref a_borneBy, .ref a_gone, .ref a_sunk, .ref a_times, .int x_t_asked, .ref a_whoBore, .ref b_gives, .ref b_best, .ref b_holds, .ref b_refused, .ref b_sums, .ref b_image, .ref b_isKept])), (a_bears, .inl (cI, 6, .inl f_bears)), (a_borneBy, .inl (cI, 5, .inl f_borneBy)), (a_due, .inl (cI, 5, .inl f_due)), (a_gone, .inl (cZ, 5, .inl f_gone)), (a_lucky, .inl (cI, 5, .inl f_lucky)), (a_may, .inl (cI, 6, .inl f_may)), (a_sunk, .inl (cZ, 6, .inl f_sunk)), (a_times, .inl (cI, 5, .inl f_times)), (a_voyage, .inl (cI, 6, .inl f_voyage)), (a_whoBore, .inl (cI, 5, .inl f_whoBore))]) (st := []) rfl rfl (by decide) (rr_S B (c_X8_in l D cI cZ v2 1 60 hq_15) gX8_winter_X8_in rfl rfl rfl (N := 3) rfl (by decide +kernel) ⟨Nat.le_of_ble_eq_true rfl, Nat.le_of_ble_eq_true rfl⟩ rfl dX8_winter_15 (Nat.le_of_ble_eq_true rfl) ⟨Nat.le_of_ble_eq_true rfl, Nat.le_of_ble_eq_true rfl⟩) (ws' := [(a_t, .inr (8, [.ref a_may, .ref a_voyage, .ref a_lucky, .ref b_worths, .ref b_ranks, .int x_t_signs, .ref b_pad, .int x_t_day, .int x_t_reason, .ref a_bears, .ref a_due, .ref a_borneBy, .ref a_gone, .ref a_sunk, .ref a_times, .int x_t_asked, .ref a_whoBore, .ref b_gives, .ref b_best, .ref b_holds, .ref b_refused, .ref b_sums, .ref b_image, .ref b_isKept])), (a_bears, .inl (cI, 6, .inl f_bears)), (a_borneBy, .inl (cI, 5, .inl f_borneBy)), (a_due, .inl (cI, 5, .inl f_due)), (a_gone, .inl (cZ, 5, .inl f_gone)), (a_lucky, .inl (cI, 5, .inl f_lucky)), (a_may, .inl (cI, 6, .inl f_may)), (a_sunk, .inl (cZ, 6, .inl f_sunk)), (a_times, .inl (cI, 5, .inl f_times)), (a_voyage, .inl (cI, 6, .inl f_voyage)), (a_whoBore, .inl (cI, 5, .inl f_whoBore))]) rfl ?_
    refine ww_if_eq B 30 dX8_winter_18 (by decide) (fun c_18 => ?_) (fun c_18 => ?_)
    · replace h := og_t c_18 h
      refine ww_bipush B dX8_winter_30 (v := (-2)) (by decide) ?_
      exact ww_iret B hA hQ hr dX8_winter_32 (f_bears, f_borneBy, f_due, f_gone, f_sunk, f_times, f_whoBore, x_t_asked, x_t_day, x_t_reason) [0, 1, 2, 3, 4, 5, 6, 7, 8, 9, 10] rfl (by decide) (og_p h)
    · replace h := og_f c_18 h
      refine ww_iload_n B dX8_winter_21 3 rfl ?_
      refine ww_iconst B dX8_winter_22 (v := 0) (by decide) ?_
      refine ww_iconst B dX8_winter_23 (v := 2) (by decide) ?_
      obtain ⟨q_24, hq_24, h⟩ := og_b h
      refine ww_ci0 B (k' := 0) (n' := 0) rfl rfl [] [0, 1, 2, 3, 4, 5, 6, 7, 8, 9, 10] (wr := [(a_t, .inr (8, [.ref a_may, .ref a_voyage, .ref a_lucky, .ref b_worths, .ref b_ranks, .int x_t_signs, .ref b_pad, .int x_t_day, .int x_t_reason, .ref a_bears, .ref a_due, .ref a_borneBy, .ref a_gone, .ref a_sunk, .ref a_times, .int x_t_asked, .ref a_whoBore, .ref b_gives, .ref b_best, .ref b_holds, .ref b_refused, .ref b_sums, .ref b_image, .ref b_isKept])), (a_bears, .inl (cI, 6, .inl f_bears)), (a_borneBy, .inl (cI, 5, .inl f_borneBy)), (a_due, .inl (cI, 5, .inl f_due)), (a_gone, .inl (cZ, 5, .inl f_gone)), (a_lucky, .inl (cI, 5, .inl f_lucky)), (a_may, .inl (cI, 6, .inl f_may)), (a_sunk, .inl (cZ, 6, .inl f_sunk)), (a_times, .inl (cI, 5, .inl f_times)), (a_voyage, .inl (cI, 6, .inl f_voyage)), (a_whoBore, .inl (cI, 5, .inl f_whoBore))]) (st := []) rfl rfl (by decide) (rr_S B (c_X8_in l D cI cZ v3 0 2 hq_24) gX8_winter_X8_in rfl rfl rfl (N := 3) rfl (by decide +kernel) ⟨Nat.le_of_ble_eq_true rfl, Nat.le_of_ble_eq_true rfl⟩ rfl dX8_winter_24 (Nat.le_of_ble_eq_true rfl) ⟨Nat.le_of_ble_eq_true rfl, Nat.le_of_ble_eq_true rfl⟩) (ws' := [(a_t, .inr (8, [.ref a_may, .ref a_voyage, .ref a_lucky, .ref b_worths, .ref b_ranks, .int x_t_signs, .ref b_pad, .int x_t_day, .int x_t_reason, .ref a_bears, .ref a_due, .ref a_borneBy, .ref a_gone, .ref a_sunk, .ref a_times, .int x_t_asked, .ref a_whoBore, .ref b_gives, .ref b_best, .ref b_holds, .ref b_refused, .ref b_sums, .ref b_image, .ref b_isKept])), (a_bears, .inl (cI, 6, .inl f_bears)), (a_borneBy, .inl (cI, 5, .inl f_borneBy)), (a_due, .inl (cI, 5, .inl f_due)), (a_gone, .inl (cZ, 5, .inl f_gone)), (a_lucky, .inl (cI, 5, .inl f_lucky)), (a_may, .inl (cI, 6, .inl f_may)), (a_sunk, .inl (cZ, 6, .inl f_sunk)), (a_times, .inl (cI, 5, .inl f_times)), (a_voyage, .inl (cI, 6, .inl f_voyage)), (a_whoBore, .inl (cI, 5, .inl f_whoBore))]) rfl ?_
      refine ww_if_ne B 33 dX8_winter_27 (by decide) (fun c_27 => ?_) (fun c_27 => ?_)
      · replace h := og_f c_27 h
        refine ww_aload_n B dX8_winter_33 0 rfl ?_
        obtain ⟨q_34, hq_34, h⟩ := og_b h
        refine ww_cvM B (k' := 0) (n' := 0) rfl rfl [0, 1, 2, 3, 4, 7, 8, 10] [5, 6, 9] (wr := [(a_lucky, .inl (cI, 5, .inl f_lucky)), (a_may, .inl (cI, 6, .inl f_may)), (a_voyage, .inl (cI, 6, .inl f_voyage))]) (st := []) rfl rfl (by decide) (rr_V B (c_X8_beginLog l D cI cZ a_t a_bears a_borneBy a_due a_gone a_sunk a_times a_whoBore a_may a_voyage a_lucky b_worths b_ranks b_pad b_gives b_best b_holds b_refused b_sums b_image b_isKept f_bears f_borneBy f_due f_gone f_sunk f_times f_whoBore x_t_signs x_t_day x_t_reason x_t_asked hq_34) gX8_winter_X8_beginLog rfl rfl rfl (N := 0) rfl (by decide +kernel) ⟨Nat.le_of_ble_eq_true rfl, Nat.le_of_ble_eq_true rfl⟩ rfl dX8_winter_34 0 rfl rfl (Nat.le_of_ble_eq_true rfl) ⟨Nat.le_of_ble_eq_true rfl, Nat.le_of_ble_eq_true rfl⟩) (ws' := [(a_lucky, .inl (cI, 5, .inl f_lucky)), (a_may, .inl (cI, 6, .inl f_may)), (a_voyage, .inl (cI, 6, .inl f_voyage)), (a_t, .inr (8, [.ref a_may, .ref a_voyage, .ref a_lucky, .ref b_worths, .ref b_ranks, .int x_t_signs, .ref b_pad, .int q_34.2.2.2.2.2.2.2.1, .int q_34.2.2.2.2.2.2.2.2, .ref a_bears, .ref a_due, .ref a_borneBy, .ref a_gone, .ref a_sunk, .ref a_times, .int x_t_asked, .ref a_whoBore, .ref b_gives, .ref b_best, .ref b_holds, .ref b_refused, .ref b_sums, .ref b_image, .ref b_isKept])), (a_bears, .inl (cI, 6, .inl q_34.1)), (a_borneBy, .inl (cI, 5, .inl q_34.2.1)), (a_due, .inl (cI, 5, .inl q_34.2.2.1)), (a_gone, .inl (cZ, 5, .inl q_34.2.2.2.1)), (a_sunk, .inl (cZ, 6, .inl q_34.2.2.2.2.1)), (a_times, .inl (cI, 5, .inl q_34.2.2.2.2.2.1)), (a_whoBore, .inl (cI, 5, .inl q_34.2.2.2.2.2.2.1))]) rfl ?_
        refine ww_aload_n B dX8_winter_37 0 rfl ?_
        refine ww_bipush B dX8_winter_38 (v := (-6)) (by decide) ?_
        refine ww_put (ci := 8) (T := TX8) (C := RX8) (N := 24) (ty := .int) B iX8 tyX8 tyX8_ok nmX8 3 rfl rfl 15 (by decide) (by decide +kernel) rfl rfl (by decide +kernel) rfl rfl (Nat.le_of_ble_eq_true rfl) dX8_winter_40 (ws' := [(a_lucky, .inl (cI, 5, .inl f_lucky)), (a_may, .inl (cI, 6, .inl f_may)), (a_voyage, .inl (cI, 6, .inl f_voyage)), (a_t, .inr (8, [.ref a_may, .ref a_voyage, .ref a_lucky, .ref b_worths, .ref b_ranks, .int x_t_signs, .ref b_pad, .int q_34.2.2.2.2.2.2.2.1, .int q_34.2.2.2.2.2.2.2.2, .ref a_bears, .ref a_due, .ref a_borneBy, .ref a_gone, .ref a_sunk, .ref a_times, .int (-6), .ref a_whoBore, .ref b_gives, .ref b_best, .ref b_holds, .ref b_refused, .ref b_sums, .ref b_image, .ref b_isKept])), (a_bears, .inl (cI, 6, .inl q_34.1)), (a_borneBy, .inl (cI, 5, .inl q_34.2.1)), (a_due, .inl (cI, 5, .inl q_34.2.2.1)), (a_gone, .inl (cZ, 5, .inl q_34.2.2.2.1)), (a_sunk, .inl (cZ, 6, .inl q_34.2.2.2.2.1)), (a_times, .inl (cI, 5, .inl q_34.2.2.2.2.2.1)), (a_whoBore, .inl (cI, 5, .inl q_34.2.2.2.2.2.2.1))]) rfl ?_
        refine ww_iload_n B dX8_winter_43 1 rfl ?_
        refine ww_istore B dX8_winter_44 (lv' := [(4, .int v1), (0, .ref a_t), (1, .int v1), (2, .int v2), (3, .int v3)]) (by decide) rfl ?_
        refine ww_iconst B dX8_winter_46 (v := 0) (by decide) ?_
        refine ww_istore B dX8_winter_47 (lv' := [(5, .int 0), (4, .int v1), (0, .ref a_t), (1, .int v1), (2, .int v2), (3, .int v3)]) (by decide) rfl ?_
        refine ww_sub (ws' := [(a_t, .inr (8, [.ref a_may, .ref a_voyage, .ref a_lucky, .ref b_worths, .ref b_ranks, .int x_t_signs, .ref b_pad, .int q_34.2.2.2.2.2.2.2.1, .int q_34.2.2.2.2.2.2.2.2, .ref a_bears, .ref a_due, .ref a_borneBy, .ref a_gone, .ref a_sunk, .ref a_times, .int (-6), .ref a_whoBore, .ref b_gives, .ref b_best, .ref b_holds, .ref b_refused, .ref b_sums, .ref b_image, .ref b_isKept])), (a_bears, .inl (cI, 6, .inl q_34.1)), (a_borneBy, .inl (cI, 5, .inl q_34.2.1)), (a_due, .inl (cI, 5, .inl q_34.2.2.1)), (a_gone, .inl (cZ, 5, .inl q_34.2.2.2.1)), (a_lucky, .inl (cI, 5, .inl f_lucky)), (a_may, .inl (cI, 6, .inl f_may)), (a_sunk, .inl (cZ, 6, .inl q_34.2.2.2.2.1)), (a_times, .inl (cI, 5, .inl q_34.2.2.2.2.2.1)), (a_voyage, .inl (cI, 6, .inl f_voyage)), (a_whoBore, .inl (cI, 5, .inl q_34.2.2.2.2.2.2.1))]) [3, 4, 5, 6, 7, 0, 1, 8, 9, 2, 10] rfl (by decide) ?_
        refine ww_lsel (lv' := [(0, .ref a_t), (2, .int v2), (3, .int v3), (4, .int v1), (5, .int 0)]) [2, 4, 5, 1, 0] rfl ?_
        exact cut_49 _ _ _ _ _ _ _ _ _ _ _ _ _ _ _ h
      · replace h := og_t c_27 h
        refine ww_bipush B dX8_winter_30 (v := (-2)) (by decide) ?_
        exact ww_iret B hA hQ hr dX8_winter_32 (f_bears, f_borneBy, f_due, f_gone, f_sunk, f_times, f_whoBore, x_t_asked, x_t_day, x_t_reason) [0, 1, 2, 3, 4, 5, 6, 7, 8, 9, 10] rfl (by decide) (og_p h)
noncomputable def m_X8_wipe (x_t_signs : Int32) : Option (Int32 × (Int32)) := some (x_t_signs, 0)
set_option maxHeartbeats 4000000 in
set_option maxRecDepth 100000 in
theorem c_X8_wipe (l : Launch) (D : va_G) (cI cZ : ClassId) (a_t b_may b_voyage b_lucky b_worths b_ranks b_pad b_bears b_due b_borneBy b_gone b_sunk b_times b_whoBore b_gives b_best b_holds b_refused b_sums b_image b_isKept : Nat) (x_t_signs : Int32) (x_t_day : Int32) (x_t_reason : Int32) (x_t_asked : Int32) {res : (Int32 × (Int32))} (h : m_X8_wipe x_t_signs = some res) : CT l yX8_wipe wsX8_wipe ({ frames := 0, cells := 0, slots := 0, locals := 0 } : Room) D cI cZ [.ref a_t] [(a_t, .inr (8, [.ref b_may, .ref b_voyage, .ref b_lucky, .ref b_worths, .ref b_ranks, .int x_t_signs, .ref b_pad, .int x_t_day, .int x_t_reason, .ref b_bears, .ref b_due, .ref b_borneBy, .ref b_gone, .ref b_sunk, .ref b_times, .int x_t_asked, .ref b_whoBore, .ref b_gives, .ref b_best, .ref b_holds, .ref b_refused, .ref b_sums, .ref b_image, .ref b_isKept]))] (QI D [(a_t, .inr (8, [.ref b_may, .ref b_voyage, .ref b_lucky, .ref b_worths, .ref b_ranks, .int x_t_signs, .ref b_pad, .int x_t_day, .int x_t_reason, .ref b_bears, .ref b_due, .ref b_borneBy, .ref b_gone, .ref b_sunk, .ref b_times, .int x_t_asked, .ref b_whoBore, .ref b_gives, .ref b_best, .ref b_holds, .ref b_refused, .ref b_sums, .ref b_image, .ref b_isKept]))] (fun (r : Int32) (u : Int32) => r = res.1 ∧ u = res.2) (fun (u : Int32) => [(a_t, .inr (8, [.ref b_may, .ref b_voyage, .ref b_lucky, .ref b_worths, .ref b_ranks, .int u, .ref b_pad, .int x_t_day, .int x_t_reason, .ref b_bears, .ref b_due, .ref b_borneBy, .ref b_gone, .ref b_sunk, .ref b_times, .int x_t_asked, .ref b_whoBore, .ref b_gives, .ref b_best, .ref b_holds, .ref b_refused, .ref b_sums, .ref b_image, .ref b_isKept]))])) 0 0 := by
  have h : (some (x_t_signs, 0) : Option (Int32 × (Int32))) = some res := h
  refine ct_entry (cc := cX8_wipe) (nl := 2) (ret := (some .int)) (own := RX8) (lv0 := [(0, .ref a_t)]) (by decide) rfl rfl (Nat.le_of_ble_eq_true rfl) rfl ?_
  intro p e s m args below meth c A Q hA hQ hr hnm B
  have iX8 : ∀ w ∈ wsX80, w ∈ wsX8_wipe := by decide +kernel
  refine ww_aload_n B dX8_wipe_0 0 rfl ?_
  refine ww_get (ci := 8) (T := TX8) (C := RX8) (N := 24) B iX8 0 rfl rfl 5 (by decide) (by decide +kernel) rfl rfl dX8_wipe_1 ?_
  refine ww_istore_n B dX8_wipe_4 (lv' := [(1, .int x_t_signs), (0, .ref a_t)]) (by decide) rfl ?_
  refine ww_aload_n B dX8_wipe_5 1 rfl ?_
  refine ww_iconst B dX8_wipe_6 (v := 0) (by decide) ?_
  refine ww_put (ci := 8) (T := TX8) (C := RX8) (N := 24) (ty := .int) B iX8 tyX8 tyX8_ok nmX8 0 rfl rfl 5 (by decide) (by decide +kernel) rfl rfl (by decide +kernel) rfl rfl (Nat.le_of_ble_eq_true rfl) dX8_wipe_7 (ws' := [(a_t, .inr (8, [.ref b_may, .ref b_voyage, .ref b_lucky, .ref b_worths, .ref b_ranks, .int 0, .ref b_pad, .int x_t_day, .int x_t_reason, .ref b_bears, .ref b_due, .ref b_borneBy, .ref b_gone, .ref b_sunk, .ref b_times, .int x_t_asked, .ref b_whoBore, .ref b_gives, .ref b_best, .ref b_holds, .ref b_refused, .ref b_sums, .ref b_image, .ref b_isKept]))]) rfl ?_
  refine ww_iload_n B dX8_wipe_10 0 rfl ?_
  exact ww_iret B hA hQ hr dX8_wipe_11 0 [0] rfl (by decide) (og_p h)
noncomputable def m_X8_worth (f_worths : (Nat → Int32)) (v1 : Int32) (v2 : Int32) (v3 : Int32) : Option (Int32 × ((Nat → Int32))) := ogb (m_X8_isHull v1) (fun q_1 => if q_1 = 0 then (some ((-1), f_worths)) else (ogb (m_X8_isName v2) (fun q_8 => if q_8 = 0 then (some ((-1), f_worths)) else (ogb (m_X8_in v3 0 99) (fun q_20 => if q_20 = 0 then (some ((-2), f_worths)) else (ogi ((5 * v1) + v2) 30 (ogl (f_worths (Int32.toNatClampNeg ((5 * v1) + v2))) (fun (v4_39 : Int32) => ogi ((5 * v1) + v2) 30 (some (v4_39, (upd f_worths (Int32.toNatClampNeg ((5 * v1) + v2)) v3)))))))))))
set_option maxHeartbeats 4000000 in
set_option maxRecDepth 100000 in
theorem c_X8_worth (l : Launch) (D : va_G) (cI cZ : ClassId) (a_t a_worths b_may b_voyage b_lucky b_ranks b_pad b_bears b_due b_borneBy b_gone b_sunk b_times b_whoBore b_gives b_best b_holds b_refused b_sums b_image b_isKept : Nat) (f_worths : (Nat → Int32)) (x_t_signs : Int32) (x_t_day : Int32) (x_t_reason : Int32) (x_t_asked : Int32) (v1 : Int32) (v2 : Int32) (v3 : Int32) {res : (Int32 × ((Nat → Int32)))} (h : m_X8_worth f_worths v1 v2 v3 = some res) : CT l yX8_worth wsX8_worth ({ frames := 2, cells := 0, slots := 0, locals := 42 } : Room) D cI cZ [.ref a_t, .int v1, .int v2, .int v3] [(a_t, .inr (8, [.ref b_may, .ref b_voyage, .ref b_lucky, .ref a_worths, .ref b_ranks, .int x_t_signs, .ref b_pad, .int x_t_day, .int x_t_reason, .ref b_bears, .ref b_due, .ref b_borneBy, .ref b_gone, .ref b_sunk, .ref b_times, .int x_t_asked, .ref b_whoBore, .ref b_gives, .ref b_best, .ref b_holds, .ref b_refused, .ref b_sums, .ref b_image, .ref b_isKept])), (a_worths, .inl (cI, 30, .inl f_worths))] (QI D [(a_t, .inr (8, [.ref b_may, .ref b_voyage, .ref b_lucky, .ref a_worths, .ref b_ranks, .int x_t_signs, .ref b_pad, .int x_t_day, .int x_t_reason, .ref b_bears, .ref b_due, .ref b_borneBy, .ref b_gone, .ref b_sunk, .ref b_times, .int x_t_asked, .ref b_whoBore, .ref b_gives, .ref b_best, .ref b_holds, .ref b_refused, .ref b_sums, .ref b_image, .ref b_isKept])), (a_worths, .inl (cI, 30, .inl f_worths))] (fun (r : Int32) (u : (Nat → Int32)) => r = res.1 ∧ u = res.2) (fun (u : (Nat → Int32)) => [(a_t, .inr (8, [.ref b_may, .ref b_voyage, .ref b_lucky, .ref a_worths, .ref b_ranks, .int x_t_signs, .ref b_pad, .int x_t_day, .int x_t_reason, .ref b_bears, .ref b_due, .ref b_borneBy, .ref b_gone, .ref b_sunk, .ref b_times, .int x_t_asked, .ref b_whoBore, .ref b_gives, .ref b_best, .ref b_holds, .ref b_refused, .ref b_sums, .ref b_image, .ref b_isKept])), (a_worths, .inl (cI, 30, .inl u))])) 0 0 := by
  have h : (ogb (m_X8_isHull v1) (fun q_1 => if q_1 = 0 then (some ((-1), f_worths)) else (ogb (m_X8_isName v2) (fun q_8 => if q_8 = 0 then (some ((-1), f_worths)) else (ogb (m_X8_in v3 0 99) (fun q_20 => if q_20 = 0 then (some ((-2), f_worths)) else (ogi ((5 * v1) + v2) 30 (ogl (f_worths (Int32.toNatClampNeg ((5 * v1) + v2))) (fun (v4_39 : Int32) => ogi ((5 * v1) + v2) 30 (some (v4_39, (upd f_worths (Int32.toNatClampNeg ((5 * v1) + v2)) v3))))))))))) : Option (Int32 × ((Nat → Int32)))) = some res := h
  refine ct_entry (cc := cX8_worth) (nl := 5) (ret := (some .int)) (own := RX8) (lv0 := [(0, .ref a_t), (1, .int v1), (2, .int v2), (3, .int v3)]) (by decide) rfl rfl (Nat.le_of_ble_eq_true rfl) rfl ?_
  intro p e s m args below meth c A Q hA hQ hr hnm B
  have iX8 : ∀ w ∈ wsX80, w ∈ wsX8_worth := by decide +kernel
  refine ww_iload_n B dX8_worth_0 1 rfl ?_
  obtain ⟨q_1, hq_1, h⟩ := og_b h
  refine ww_ci0 B (k' := 0) (n' := 0) rfl rfl [] [0, 1] (wr := [(a_t, .inr (8, [.ref b_may, .ref b_voyage, .ref b_lucky, .ref a_worths, .ref b_ranks, .int x_t_signs, .ref b_pad, .int x_t_day, .int x_t_reason, .ref b_bears, .ref b_due, .ref b_borneBy, .ref b_gone, .ref b_sunk, .ref b_times, .int x_t_asked, .ref b_whoBore, .ref b_gives, .ref b_best, .ref b_holds, .ref b_refused, .ref b_sums, .ref b_image, .ref b_isKept])), (a_worths, .inl (cI, 30, .inl f_worths))]) (st := []) rfl rfl (by decide) (rr_S B (c_X8_isHull l D cI cZ v1 hq_1) gX8_worth_X8_isHull rfl rfl rfl (N := 1) rfl (by decide +kernel) ⟨Nat.le_of_ble_eq_true rfl, Nat.le_of_ble_eq_true rfl⟩ rfl dX8_worth_1 (Nat.le_of_ble_eq_true rfl) ⟨Nat.le_of_ble_eq_true rfl, Nat.le_of_ble_eq_true rfl⟩) (ws' := [(a_t, .inr (8, [.ref b_may, .ref b_voyage, .ref b_lucky, .ref a_worths, .ref b_ranks, .int x_t_signs, .ref b_pad, .int x_t_day, .int x_t_reason, .ref b_bears, .ref b_due, .ref b_borneBy, .ref b_gone, .ref b_sunk, .ref b_times, .int x_t_asked, .ref b_whoBore, .ref b_gives, .ref b_best, .ref b_holds, .ref b_refused, .ref b_sums, .ref b_image, .ref b_isKept])), (a_worths, .inl (cI, 30, .inl f_worths))]) rfl ?_
  refine ww_if_eq B 14 dX8_worth_4 (by decide) (fun c_4 => ?_) (fun c_4 => ?_)
  · replace h := og_t c_4 h
    refine ww_iconst B dX8_worth_14 (v := (-1)) (by decide) ?_
    exact ww_iret B hA hQ hr dX8_worth_15 f_worths [0, 1] rfl (by decide) (og_p h)
  · replace h := og_f c_4 h
    refine ww_iload_n B dX8_worth_7 2 rfl ?_
    obtain ⟨q_8, hq_8, h⟩ := og_b h
    refine ww_ci0 B (k' := 0) (n' := 0) rfl rfl [] [0, 1] (wr := [(a_t, .inr (8, [.ref b_may, .ref b_voyage, .ref b_lucky, .ref a_worths, .ref b_ranks, .int x_t_signs, .ref b_pad, .int x_t_day, .int x_t_reason, .ref b_bears, .ref b_due, .ref b_borneBy, .ref b_gone, .ref b_sunk, .ref b_times, .int x_t_asked, .ref b_whoBore, .ref b_gives, .ref b_best, .ref b_holds, .ref b_refused, .ref b_sums, .ref b_image, .ref b_isKept])), (a_worths, .inl (cI, 30, .inl f_worths))]) (st := []) rfl rfl (by decide) (rr_S B (c_X8_isName l D cI cZ v2 hq_8) gX8_worth_X8_isName rfl rfl rfl (N := 1) rfl (by decide +kernel) ⟨Nat.le_of_ble_eq_true rfl, Nat.le_of_ble_eq_true rfl⟩ rfl dX8_worth_8 (Nat.le_of_ble_eq_true rfl) ⟨Nat.le_of_ble_eq_true rfl, Nat.le_of_ble_eq_true rfl⟩) (ws' := [(a_t, .inr (8, [.ref b_may, .ref b_voyage, .ref b_lucky, .ref a_worths, .ref b_ranks, .int x_t_signs, .ref b_pad, .int x_t_day, .int x_t_reason, .ref b_bears, .ref b_due, .ref b_borneBy, .ref b_gone, .ref b_sunk, .ref b_times, .int x_t_asked, .ref b_whoBore, .ref b_gives, .ref b_best, .ref b_holds, .ref b_refused, .ref b_sums, .ref b_image, .ref b_isKept])), (a_worths, .inl (cI, 30, .inl f_worths))]) rfl ?_
    refine ww_if_ne B 16 dX8_worth_11 (by decide) (fun c_11 => ?_) (fun c_11 => ?_)
    · replace h := og_f c_11 h
      refine ww_iload_n B dX8_worth_16 3 rfl ?_
      refine ww_iconst B dX8_worth_17 (v := 0) (by decide) ?_
      refine ww_bipush B dX8_worth_18 (v := 99) (by decide) ?_
      obtain ⟨q_20, hq_20, h⟩ := og_b h
      refine ww_ci0 B (k' := 0) (n' := 0) rfl rfl [] [0, 1] (wr := [(a_t, .inr (8, [.ref b_may, .ref b_voyage, .ref b_lucky, .ref a_worths, .ref b_ranks, .int x_t_signs, .ref b_pad, .int x_t_day, .int x_t_reason, .ref b_bears, .ref b_due, .ref b_borneBy, .ref b_gone, .ref b_sunk, .ref b_times, .int x_t_asked, .ref b_whoBore, .ref b_gives, .ref b_best, .ref b_holds, .ref b_refused, .ref b_sums, .ref b_image, .ref b_isKept])), (a_worths, .inl (cI, 30, .inl f_worths))]) (st := []) rfl rfl (by decide) (rr_S B (c_X8_in l D cI cZ v3 0 99 hq_20) gX8_worth_X8_in rfl rfl rfl (N := 3) rfl (by decide +kernel) ⟨Nat.le_of_ble_eq_true rfl, Nat.le_of_ble_eq_true rfl⟩ rfl dX8_worth_20 (Nat.le_of_ble_eq_true rfl) ⟨Nat.le_of_ble_eq_true rfl, Nat.le_of_ble_eq_true rfl⟩) (ws' := [(a_t, .inr (8, [.ref b_may, .ref b_voyage, .ref b_lucky, .ref a_worths, .ref b_ranks, .int x_t_signs, .ref b_pad, .int x_t_day, .int x_t_reason, .ref b_bears, .ref b_due, .ref b_borneBy, .ref b_gone, .ref b_sunk, .ref b_times, .int x_t_asked, .ref b_whoBore, .ref b_gives, .ref b_best, .ref b_holds, .ref b_refused, .ref b_sums, .ref b_image, .ref b_isKept])), (a_worths, .inl (cI, 30, .inl f_worths))]) rfl ?_
      refine ww_if_ne B 29 dX8_worth_23 (by decide) (fun c_23 => ?_) (fun c_23 => ?_)
      · replace h := og_f c_23 h
        refine ww_aload_n B dX8_worth_29 0 rfl ?_
        refine ww_get (ci := 8) (T := TX8) (C := RX8) (N := 24) B iX8 0 rfl rfl 3 (by decide) (by decide +kernel) rfl rfl dX8_worth_30 ?_
        refine ww_iconst B dX8_worth_33 (v := 5) (by decide) ?_
        refine ww_iload_n B dX8_worth_34 1 rfl ?_
        refine ww_imul B dX8_worth_35 ?_
        refine ww_iload_n B dX8_worth_36 2 rfl ?_
        refine ww_iadd B dX8_worth_37 ?_
        obtain ⟨i_38, h⟩ := og_i h
        refine ww_iald B 1 rfl i_38 dX8_worth_38 ?_
        refine ww_topi (fun v4_39 ev4_39 => ?_)
        replace h := og_l ev4_39 h
        refine ww_istore B dX8_worth_39 (lv' := [(4, .int v4_39), (0, .ref a_t), (1, .int v1), (2, .int v2), (3, .int v3)]) (by decide) rfl ?_
        refine ww_aload_n B dX8_worth_41 1 rfl ?_
        refine ww_get (ci := 8) (T := TX8) (C := RX8) (N := 24) B iX8 0 rfl rfl 3 (by decide) (by decide +kernel) rfl rfl dX8_worth_42 ?_
        refine ww_iconst B dX8_worth_45 (v := 5) (by decide) ?_
        refine ww_iload_n B dX8_worth_46 2 rfl ?_
        refine ww_imul B dX8_worth_47 ?_
        refine ww_iload_n B dX8_worth_48 3 rfl ?_
        refine ww_iadd B dX8_worth_49 ?_
        refine ww_iload_n B dX8_worth_50 4 rfl ?_
        obtain ⟨i_51, h⟩ := og_i h
        refine ww_iast B 1 rfl i_51 dX8_worth_51 (ws' := [(a_t, .inr (8, [.ref b_may, .ref b_voyage, .ref b_lucky, .ref a_worths, .ref b_ranks, .int x_t_signs, .ref b_pad, .int x_t_day, .int x_t_reason, .ref b_bears, .ref b_due, .ref b_borneBy, .ref b_gone, .ref b_sunk, .ref b_times, .int x_t_asked, .ref b_whoBore, .ref b_gives, .ref b_best, .ref b_holds, .ref b_refused, .ref b_sums, .ref b_image, .ref b_isKept])), (a_worths, .inl (cI, 30, .inl (upd f_worths (Int32.toNatClampNeg ((5 * v1) + v2)) v3)))]) rfl ?_
        refine ww_iload B dX8_worth_52 0 rfl ?_
        exact ww_iret B hA hQ hr dX8_worth_54 (upd f_worths (Int32.toNatClampNeg ((5 * v1) + v2)) v3) [0, 1] rfl (by decide) (og_p h)
      · replace h := og_t c_23 h
        refine ww_bipush B dX8_worth_26 (v := (-2)) (by decide) ?_
        exact ww_iret B hA hQ hr dX8_worth_28 f_worths [0, 1] rfl (by decide) (og_p h)
    · replace h := og_t c_11 h
      refine ww_iconst B dX8_worth_14 (v := (-1)) (by decide) ?_
      exact ww_iret B hA hQ hr dX8_worth_15 f_worths [0, 1] rfl (by decide) (og_p h)
