noncomputable def m_X2_add (f_signs : (Nat → Int32)) (x_t_count : Int32) (v1 : Int32) : Option (Int32 × ((Nat → Int32) × Int32)) := if x_t_count < 0 then (some ((-4), (f_signs, x_t_count))) else (if x_t_count < 48 then (ogi x_t_count 48 (ogl (x_t_count + 1) (fun (w_36 : Int32) => some (w_36, ((upd f_signs (Int32.toNatClampNeg x_t_count) v1), w_36))))) else (some ((-4), (f_signs, x_t_count))))
set_option maxHeartbeats 4000000 in
set_option maxRecDepth 100000 in
theorem c_X2_add (l : Launch) (D : va_G) (cI cZ : ClassId) (a_t a_signs b_kinds b_hulls b_names b_days : Nat) (f_signs : (Nat → Int32)) (x_t_awaited : Int32) (x_t_count : Int32) (x_t_parts : Int32) (x_t_gaps : Int32) (x_t_lastDay : Int32) (v1 : Int32) {res : (Int32 × ((Nat → Int32) × Int32))} (h : m_X2_add f_signs x_t_count v1 = some res) : CT l yX2_add wsX2_add ({ frames := 0, cells := 0, slots := 0, locals := 0 } : Room) D cI cZ [.ref a_t, .int v1] [(a_t, .inr (2, [.ref a_signs, .int x_t_awaited, .int x_t_count, .ref b_kinds, .ref b_hulls, .ref b_names, .ref b_days, .int x_t_parts, .int x_t_gaps, .int x_t_lastDay])), (a_signs, .inl (cI, 48, .inl f_signs))] (QI D [(a_t, .inr (2, [.ref a_signs, .int x_t_awaited, .int x_t_count, .ref b_kinds, .ref b_hulls, .ref b_names, .ref b_days, .int x_t_parts, .int x_t_gaps, .int x_t_lastDay])), (a_signs, .inl (cI, 48, .inl f_signs))] (fun (r : Int32) (u : (Nat → Int32) × Int32) => r = res.1 ∧ u = res.2) (fun (u : (Nat → Int32) × Int32) => [(a_t, .inr (2, [.ref a_signs, .int x_t_awaited, .int u.2, .ref b_kinds, .ref b_hulls, .ref b_names, .ref b_days, .int x_t_parts, .int x_t_gaps, .int x_t_lastDay])), (a_signs, .inl (cI, 48, .inl u.1))])) 0 0 := by
  have h : (if x_t_count < 0 then (some ((-4), (f_signs, x_t_count))) else (if x_t_count < 48 then (ogi x_t_count 48 (ogl (x_t_count + 1) (fun (w_36 : Int32) => some (w_36, ((upd f_signs (Int32.toNatClampNeg x_t_count) v1), w_36))))) else (some ((-4), (f_signs, x_t_count)))) : Option (Int32 × ((Nat → Int32) × Int32))) = some res := h
  refine ct_entry (cc := cX2_add) (nl := 2) (ret := (some .int)) (own := RX2) (lv0 := [(0, .ref a_t), (1, .int v1)]) (by decide) rfl rfl (Nat.le_of_ble_eq_true rfl) rfl ?_
  intro p e s m args below meth c A Q hA hQ hr hnm B
  have iX2 : ∀ w ∈ wsX20, w ∈ wsX2_add := by decide +kernel
  refine ww_aload_n B dX2_add_0 0 rfl ?_
  refine ww_get (ci := 2) (T := TX2) (C := RX2) (N := 10) B iX2 0 rfl rfl 2 (by decide) (by decide +kernel) rfl rfl dX2_add_1 ?_
  refine ww_if_lt B 16 dX2_add_4 (by decide) (fun c_4 => ?_) (fun c_4 => ?_)
  · replace h := og_t c_4 h
    refine ww_bipush B dX2_add_16 (v := (-4)) (by decide) ?_
    exact ww_iret B hA hQ hr dX2_add_18 (f_signs, x_t_count) [0, 1] rfl (by decide) (og_p h)
  · replace h := og_f c_4 h
    refine ww_aload_n B dX2_add_7 0 rfl ?_
    refine ww_get (ci := 2) (T := TX2) (C := RX2) (N := 10) B iX2 0 rfl rfl 2 (by decide) (by decide +kernel) rfl rfl dX2_add_8 ?_
    refine ww_bipush B dX2_add_11 (v := 48) (by decide) ?_
    refine ww_icmp_lt B 19 dX2_add_13 (by decide) (fun c_13 => ?_) (fun c_13 => ?_)
    · replace h := og_t c_13 h
      refine ww_aload_n B dX2_add_19 0 rfl ?_
      refine ww_get (ci := 2) (T := TX2) (C := RX2) (N := 10) B iX2 0 rfl rfl 0 (by decide) (by decide +kernel) rfl rfl dX2_add_20 ?_
      refine ww_aload_n B dX2_add_23 0 rfl ?_
      refine ww_get (ci := 2) (T := TX2) (C := RX2) (N := 10) B iX2 0 rfl rfl 2 (by decide) (by decide +kernel) rfl rfl dX2_add_24 ?_
      refine ww_iload_n B dX2_add_27 1 rfl ?_
      obtain ⟨i_28, h⟩ := og_i h
      refine ww_iast B 1 rfl i_28 dX2_add_28 (ws' := [(a_t, .inr (2, [.ref a_signs, .int x_t_awaited, .int x_t_count, .ref b_kinds, .ref b_hulls, .ref b_names, .ref b_days, .int x_t_parts, .int x_t_gaps, .int x_t_lastDay])), (a_signs, .inl (cI, 48, .inl (upd f_signs (Int32.toNatClampNeg x_t_count) v1)))]) rfl ?_
      refine ww_aload_n B dX2_add_29 0 rfl ?_
      refine ww_dup B dX2_add_30 rfl ?_
      refine ww_get (ci := 2) (T := TX2) (C := RX2) (N := 10) B iX2 0 rfl rfl 2 (by decide) (by decide +kernel) rfl rfl dX2_add_31 ?_
      refine ww_iconst B dX2_add_34 (v := 1) (by decide) ?_
      refine ww_iadd B dX2_add_35 ?_
      refine ww_topi (fun w_36 ew_36 => ?_)
      replace h := og_l ew_36 h
      refine ww_put (ci := 2) (T := TX2) (C := RX2) (N := 10) (ty := .int) B iX2 tyX2 tyX2_ok nmX2 0 rfl rfl 2 (by decide) (by decide +kernel) rfl rfl (by decide +kernel) rfl rfl (Nat.le_of_ble_eq_true rfl) dX2_add_36 (ws' := [(a_t, .inr (2, [.ref a_signs, .int x_t_awaited, .int w_36, .ref b_kinds, .ref b_hulls, .ref b_names, .ref b_days, .int x_t_parts, .int x_t_gaps, .int x_t_lastDay])), (a_signs, .inl (cI, 48, .inl (upd f_signs (Int32.toNatClampNeg x_t_count) v1)))]) rfl ?_
      refine ww_aload_n B dX2_add_39 0 rfl ?_
      refine ww_get (ci := 2) (T := TX2) (C := RX2) (N := 10) B iX2 0 rfl rfl 2 (by decide) (by decide +kernel) rfl rfl dX2_add_40 ?_
      exact ww_iret B hA hQ hr dX2_add_43 ((upd f_signs (Int32.toNatClampNeg x_t_count) v1), w_36) [0, 1] rfl (by decide) (og_p h)
    · replace h := og_f c_13 h
      refine ww_bipush B dX2_add_16 (v := (-4)) (by decide) ?_
      exact ww_iret B hA hQ hr dX2_add_18 (f_signs, x_t_count) [0, 1] rfl (by decide) (og_p h)
noncomputable def m_X2_close (f_kinds : (Nat → Int32)) (x_t_awaited : Int32) (x_t_parts : Int32) (v1 : Int32) : Option ((Nat → Int32) × Int32 × Int32) := ogb (m_X7_put 48 f_kinds x_t_parts v1) (fun q_9 => ogl (x_t_parts + 1) (fun (w_19 : Int32) => some (q_9, 0, w_19)))
set_option maxHeartbeats 4000000 in
set_option maxRecDepth 100000 in
theorem c_X2_close (l : Launch) (D : va_G) (cI cZ : ClassId) (a_t a_kinds b_signs b_hulls b_names b_days : Nat) (f_kinds : (Nat → Int32)) (x_t_awaited : Int32) (x_t_count : Int32) (x_t_parts : Int32) (x_t_gaps : Int32) (x_t_lastDay : Int32) (v1 : Int32) {res : ((Nat → Int32) × Int32 × Int32)} (h : m_X2_close f_kinds x_t_awaited x_t_parts v1 = some res) : CT l yX2_close wsX2_close ({ frames := 1, cells := 0, slots := 0, locals := 22 } : Room) D cI cZ [.ref a_t, .int v1] [(a_t, .inr (2, [.ref b_signs, .int x_t_awaited, .int x_t_count, .ref a_kinds, .ref b_hulls, .ref b_names, .ref b_days, .int x_t_parts, .int x_t_gaps, .int x_t_lastDay])), (a_kinds, .inl (cI, 48, .inl f_kinds))] (QV D [(a_t, .inr (2, [.ref b_signs, .int x_t_awaited, .int x_t_count, .ref a_kinds, .ref b_hulls, .ref b_names, .ref b_days, .int x_t_parts, .int x_t_gaps, .int x_t_lastDay])), (a_kinds, .inl (cI, 48, .inl f_kinds))] (fun (u : (Nat → Int32) × Int32 × Int32) => u = res) (fun (u : (Nat → Int32) × Int32 × Int32) => [(a_t, .inr (2, [.ref b_signs, .int u.2.1, .int x_t_count, .ref a_kinds, .ref b_hulls, .ref b_names, .ref b_days, .int u.2.2, .int x_t_gaps, .int x_t_lastDay])), (a_kinds, .inl (cI, 48, .inl u.1))])) 0 0 := by
  have h : (ogb (m_X7_put 48 f_kinds x_t_parts v1) (fun q_9 => ogl (x_t_parts + 1) (fun (w_19 : Int32) => some (q_9, 0, w_19))) : Option ((Nat → Int32) × Int32 × Int32)) = some res := h
  refine ct_entry (cc := cX2_close) (nl := 2) (ret := none) (own := RX2) (lv0 := [(0, .ref a_t), (1, .int v1)]) (by decide) rfl rfl (Nat.le_of_ble_eq_true rfl) rfl ?_
  intro p e s m args below meth c A Q hA hQ hr hnm B
  have iX2 : ∀ w ∈ wsX20, w ∈ wsX2_close := by decide +kernel
  refine ww_aload_n B dX2_close_0 0 rfl ?_
  refine ww_get (ci := 2) (T := TX2) (C := RX2) (N := 10) B iX2 0 rfl rfl 3 (by decide) (by decide +kernel) rfl rfl dX2_close_1 ?_
  refine ww_aload_n B dX2_close_4 0 rfl ?_
  refine ww_get (ci := 2) (T := TX2) (C := RX2) (N := 10) B iX2 0 rfl rfl 7 (by decide) (by decide +kernel) rfl rfl dX2_close_5 ?_
  refine ww_iload_n B dX2_close_8 1 rfl ?_
  obtain ⟨q_9, hq_9, h⟩ := og_b h
  refine ww_cvM B (k' := 0) (n' := 0) rfl rfl [1] [0] (wr := [(a_t, .inr (2, [.ref b_signs, .int x_t_awaited, .int x_t_count, .ref a_kinds, .ref b_hulls, .ref b_names, .ref b_days, .int x_t_parts, .int x_t_gaps, .int x_t_lastDay]))]) (st := []) rfl rfl (by decide) (rr_SN B (c_X7_put l D cI cZ a_kinds 48 f_kinds x_t_parts v1 hq_9) gX2_close_X7_put_n63 rfl rfl rfl (by decide +kernel) (by decide +kernel) (by decide +kernel) (N := 3) rfl (by decide +kernel) ⟨Nat.le_of_ble_eq_true rfl, Nat.le_of_ble_eq_true rfl⟩ rfl dX2_close_9 (Nat.le_of_ble_eq_true rfl) ⟨Nat.le_of_ble_eq_true rfl, Nat.le_of_ble_eq_true rfl⟩) (ws' := [(a_t, .inr (2, [.ref b_signs, .int x_t_awaited, .int x_t_count, .ref a_kinds, .ref b_hulls, .ref b_names, .ref b_days, .int x_t_parts, .int x_t_gaps, .int x_t_lastDay])), (a_kinds, .inl (cI, 48, .inl q_9))]) rfl ?_
  refine ww_aload_n B dX2_close_12 0 rfl ?_
  refine ww_dup B dX2_close_13 rfl ?_
  refine ww_get (ci := 2) (T := TX2) (C := RX2) (N := 10) B iX2 0 rfl rfl 7 (by decide) (by decide +kernel) rfl rfl dX2_close_14 ?_
  refine ww_iconst B dX2_close_17 (v := 1) (by decide) ?_
  refine ww_iadd B dX2_close_18 ?_
  refine ww_topi (fun w_19 ew_19 => ?_)
  replace h := og_l ew_19 h
  refine ww_put (ci := 2) (T := TX2) (C := RX2) (N := 10) (ty := .int) B iX2 tyX2 tyX2_ok nmX2 0 rfl rfl 7 (by decide) (by decide +kernel) rfl rfl (by decide +kernel) rfl rfl (Nat.le_of_ble_eq_true rfl) dX2_close_19 (ws' := [(a_t, .inr (2, [.ref b_signs, .int x_t_awaited, .int x_t_count, .ref a_kinds, .ref b_hulls, .ref b_names, .ref b_days, .int w_19, .int x_t_gaps, .int x_t_lastDay])), (a_kinds, .inl (cI, 48, .inl q_9))]) rfl ?_
  refine ww_aload_n B dX2_close_22 0 rfl ?_
  refine ww_iconst B dX2_close_23 (v := 0) (by decide) ?_
  refine ww_put (ci := 2) (T := TX2) (C := RX2) (N := 10) (ty := .int) B iX2 tyX2 tyX2_ok nmX2 0 rfl rfl 1 (by decide) (by decide +kernel) rfl rfl (by decide +kernel) rfl rfl (Nat.le_of_ble_eq_true rfl) dX2_close_24 (ws' := [(a_t, .inr (2, [.ref b_signs, .int 0, .int x_t_count, .ref a_kinds, .ref b_hulls, .ref b_names, .ref b_days, .int w_19, .int x_t_gaps, .int x_t_lastDay])), (a_kinds, .inl (cI, 48, .inl q_9))]) rfl ?_
  exact ww_vret B hA hQ hr dX2_close_27 (q_9, 0, w_19) [0, 1] rfl (by decide) (og_s h).symm
noncomputable def m_X2_startsSail (x_t_parts : Int32) (f_hulls : (Nat → Int32)) (x_t_awaited : Int32) (v1 : Int32) : Option (Int32 × ((Nat → Int32) × Int32)) := ogb (m_X7_put 48 f_hulls x_t_parts v1) (fun q_9 => some (1, (q_9, 1)))
set_option maxHeartbeats 4000000 in
set_option maxRecDepth 100000 in
theorem c_X2_startsSail (l : Launch) (D : va_G) (cI cZ : ClassId) (a_t a_hulls b_signs b_kinds b_names b_days : Nat) (f_hulls : (Nat → Int32)) (x_t_awaited : Int32) (x_t_count : Int32) (x_t_parts : Int32) (x_t_gaps : Int32) (x_t_lastDay : Int32) (v1 : Int32) {res : (Int32 × ((Nat → Int32) × Int32))} (h : m_X2_startsSail x_t_parts f_hulls x_t_awaited v1 = some res) : CT l yX2_startsSail wsX2_startsSail ({ frames := 1, cells := 0, slots := 0, locals := 22 } : Room) D cI cZ [.ref a_t, .int v1] [(a_t, .inr (2, [.ref b_signs, .int x_t_awaited, .int x_t_count, .ref b_kinds, .ref a_hulls, .ref b_names, .ref b_days, .int x_t_parts, .int x_t_gaps, .int x_t_lastDay])), (a_hulls, .inl (cI, 48, .inl f_hulls))] (QI D [(a_t, .inr (2, [.ref b_signs, .int x_t_awaited, .int x_t_count, .ref b_kinds, .ref a_hulls, .ref b_names, .ref b_days, .int x_t_parts, .int x_t_gaps, .int x_t_lastDay])), (a_hulls, .inl (cI, 48, .inl f_hulls))] (fun (r : Int32) (u : (Nat → Int32) × Int32) => r = res.1 ∧ u = res.2) (fun (u : (Nat → Int32) × Int32) => [(a_t, .inr (2, [.ref b_signs, .int u.2, .int x_t_count, .ref b_kinds, .ref a_hulls, .ref b_names, .ref b_days, .int x_t_parts, .int x_t_gaps, .int x_t_lastDay])), (a_hulls, .inl (cI, 48, .inl u.1))])) 0 0 := by
  have h : (ogb (m_X7_put 48 f_hulls x_t_parts v1) (fun q_9 => some (1, (q_9, 1))) : Option (Int32 × ((Nat → Int32) × Int32))) = some res := h
  refine ct_entry (cc := cX2_startsSail) (nl := 2) (ret := (some .boolean)) (own := RX2) (lv0 := [(0, .ref a_t), (1, .int v1)]) (by decide) rfl rfl (Nat.le_of_ble_eq_true rfl) rfl ?_
  intro p e s m args below meth c A Q hA hQ hr hnm B
  have iX2 : ∀ w ∈ wsX20, w ∈ wsX2_startsSail := by decide +kernel
  refine ww_aload_n B dX2_startsSail_0 0 rfl ?_
  refine ww_get (ci := 2) (T := TX2) (C := RX2) (N := 10) B iX2 0 rfl rfl 4 (by decide) (by decide +kernel) rfl rfl dX2_startsSail_1 ?_
  refine ww_aload_n B dX2_startsSail_4 0 rfl ?_
  refine ww_get (ci := 2) (T := TX2) (C := RX2) (N := 10) B iX2 0 rfl rfl 7 (by decide) (by decide +kernel) rfl rfl dX2_startsSail_5 ?_
  refine ww_iload_n B dX2_startsSail_8 1 rfl ?_
  obtain ⟨q_9, hq_9, h⟩ := og_b h
  refine ww_cvM B (k' := 0) (n' := 0) rfl rfl [1] [0] (wr := [(a_t, .inr (2, [.ref b_signs, .int x_t_awaited, .int x_t_count, .ref b_kinds, .ref a_hulls, .ref b_names, .ref b_days, .int x_t_parts, .int x_t_gaps, .int x_t_lastDay]))]) (st := []) rfl rfl (by decide) (rr_SN B (c_X7_put l D cI cZ a_hulls 48 f_hulls x_t_parts v1 hq_9) gX2_startsSail_X7_put_n63 rfl rfl rfl (by decide +kernel) (by decide +kernel) (by decide +kernel) (N := 3) rfl (by decide +kernel) ⟨Nat.le_of_ble_eq_true rfl, Nat.le_of_ble_eq_true rfl⟩ rfl dX2_startsSail_9 (Nat.le_of_ble_eq_true rfl) ⟨Nat.le_of_ble_eq_true rfl, Nat.le_of_ble_eq_true rfl⟩) (ws' := [(a_t, .inr (2, [.ref b_signs, .int x_t_awaited, .int x_t_count, .ref b_kinds, .ref a_hulls, .ref b_names, .ref b_days, .int x_t_parts, .int x_t_gaps, .int x_t_lastDay])), (a_hulls, .inl (cI, 48, .inl q_9))]) rfl ?_
  refine ww_aload_n B dX2_startsSail_12 0 rfl ?_
  refine ww_iconst B dX2_startsSail_13 (v := 1) (by decide) ?_
  refine ww_put (ci := 2) (T := TX2) (C := RX2) (N := 10) (ty := .int) B iX2 tyX2 tyX2_ok nmX2 0 rfl rfl 1 (by decide) (by decide +kernel) rfl rfl (by decide +kernel) rfl rfl (Nat.le_of_ble_eq_true rfl) dX2_startsSail_14 (ws' := [(a_t, .inr (2, [.ref b_signs, .int 1, .int x_t_count, .ref b_kinds, .ref a_hulls, .ref b_names, .ref b_days, .int x_t_parts, .int x_t_gaps, .int x_t_lastDay])), (a_hulls, .inl (cI, 48, .inl q_9))]) rfl ?_
  refine ww_iconst B dX2_startsSail_17 (v := 1) (by decide) ?_
  exact ww_zret B hA hQ hr (Or.inr rfl) dX2_startsSail_18 (q_9, 1) [0, 1] rfl (by decide) (og_p h)
noncomputable def m_X2_takesStart_66 (v1 : Int32) (f_hulls : (Nat → Int32)) (f_kinds : (Nat → Int32)) (x_t_awaited : Int32) (x_t_gaps : Int32) (x_t_lastDay : Int32) (x_t_parts : Int32) : Option (Int32 × ((Nat → Int32) × (Nat → Int32) × Int32 × Int32 × Int32 × Int32)) := if v1 < 65 then (some (0, (f_hulls, f_kinds, x_t_awaited, x_t_gaps, x_t_lastDay, x_t_parts))) else (if 70 < v1 then (some (0, (f_hulls, f_kinds, x_t_awaited, x_t_gaps, x_t_lastDay, x_t_parts))) else (ogb (m_X2_startsSail x_t_parts f_hulls x_t_awaited (v1 - 65)) (fun q_83 => if q_83.1 = 0 then (some (0, (q_83.2.1, f_kinds, q_83.2.2, x_t_gaps, x_t_lastDay, x_t_parts))) else (some (1, (q_83.2.1, f_kinds, q_83.2.2, x_t_gaps, x_t_lastDay, x_t_parts))))))
noncomputable def m_X2_takesStart (f_hulls : (Nat → Int32)) (f_kinds : (Nat → Int32)) (x_t_awaited : Int32) (x_t_gaps : Int32) (x_t_lastDay : Int32) (x_t_parts : Int32) (v1 : Int32) : Option (Int32 × ((Nat → Int32) × (Nat → Int32) × Int32 × Int32 × Int32 × Int32)) := if v1 = 46 then (ogl (x_t_lastDay + 1) (fun (w_13 : Int32) => ogb (m_X2_close f_kinds x_t_awaited x_t_parts 2) (fun q_18 => some (1, (f_hulls, q_18.1, q_18.2.1, x_t_gaps, w_13, q_18.2.2))))) else (if v1 = 33 then (some (1, (f_hulls, f_kinds, 3, x_t_gaps, x_t_lastDay, x_t_parts))) else (if v1 = 63 then (if 4 ≤ x_t_gaps then ((m_X2_takesStart_66 v1 f_hulls f_kinds x_t_awaited x_t_gaps x_t_lastDay x_t_parts)) else (ogl (x_t_gaps + 1) (fun (w_57 : Int32) => ogb (m_X2_startsSail x_t_parts f_hulls x_t_awaited (-1)) (fun q_62 => ogy (q_62.1 = 0 ∨ q_62.1 = 1) (some (q_62.1, (q_62.2.1, f_kinds, q_62.2.2, w_57, x_t_lastDay, x_t_parts))))))) else ((m_X2_takesStart_66 v1 f_hulls f_kinds x_t_awaited x_t_gaps x_t_lastDay x_t_parts))))
set_option maxHeartbeats 4000000 in
set_option maxRecDepth 100000 in
theorem c_X2_takesStart (l : Launch) (D : va_G) (cI cZ : ClassId) (a_t a_hulls a_kinds b_signs b_names b_days : Nat) (f_hulls : (Nat → Int32)) (f_kinds : (Nat → Int32)) (x_t_awaited : Int32) (x_t_count : Int32) (x_t_parts : Int32) (x_t_gaps : Int32) (x_t_lastDay : Int32) (v1 : Int32) {res : (Int32 × ((Nat → Int32) × (Nat → Int32) × Int32 × Int32 × Int32 × Int32))} (h : m_X2_takesStart f_hulls f_kinds x_t_awaited x_t_gaps x_t_lastDay x_t_parts v1 = some res) : CT l yX2_takesStart wsX2_takesStart ({ frames := 2, cells := 0, slots := 0, locals := 43 } : Room) D cI cZ [.ref a_t, .int v1] [(a_t, .inr (2, [.ref b_signs, .int x_t_awaited, .int x_t_count, .ref a_kinds, .ref a_hulls, .ref b_names, .ref b_days, .int x_t_parts, .int x_t_gaps, .int x_t_lastDay])), (a_hulls, .inl (cI, 48, .inl f_hulls)), (a_kinds, .inl (cI, 48, .inl f_kinds))] (QI D [(a_t, .inr (2, [.ref b_signs, .int x_t_awaited, .int x_t_count, .ref a_kinds, .ref a_hulls, .ref b_names, .ref b_days, .int x_t_parts, .int x_t_gaps, .int x_t_lastDay])), (a_hulls, .inl (cI, 48, .inl f_hulls)), (a_kinds, .inl (cI, 48, .inl f_kinds))] (fun (r : Int32) (u : (Nat → Int32) × (Nat → Int32) × Int32 × Int32 × Int32 × Int32) => r = res.1 ∧ u = res.2) (fun (u : (Nat → Int32) × (Nat → Int32) × Int32 × Int32 × Int32 × Int32) => [(a_t, .inr (2, [.ref b_signs, .int u.2.2.1, .int x_t_count, .ref a_kinds, .ref a_hulls, .ref b_names, .ref b_days, .int u.2.2.2.2.2, .int u.2.2.2.1, .int u.2.2.2.2.1])), (a_hulls, .inl (cI, 48, .inl u.1)), (a_kinds, .inl (cI, 48, .inl u.2.1))])) 0 0 := by
  have h : (if v1 = 46 then (ogl (x_t_lastDay + 1) (fun (w_13 : Int32) => ogb (m_X2_close f_kinds x_t_awaited x_t_parts 2) (fun q_18 => some (1, (f_hulls, q_18.1, q_18.2.1, x_t_gaps, w_13, q_18.2.2))))) else (if v1 = 33 then (some (1, (f_hulls, f_kinds, 3, x_t_gaps, x_t_lastDay, x_t_parts))) else (if v1 = 63 then (if 4 ≤ x_t_gaps then ((m_X2_takesStart_66 v1 f_hulls f_kinds x_t_awaited x_t_gaps x_t_lastDay x_t_parts)) else (ogl (x_t_gaps + 1) (fun (w_57 : Int32) => ogb (m_X2_startsSail x_t_parts f_hulls x_t_awaited (-1)) (fun q_62 => ogy (q_62.1 = 0 ∨ q_62.1 = 1) (some (q_62.1, (q_62.2.1, f_kinds, q_62.2.2, w_57, x_t_lastDay, x_t_parts))))))) else ((m_X2_takesStart_66 v1 f_hulls f_kinds x_t_awaited x_t_gaps x_t_lastDay x_t_parts)))) : Option (Int32 × ((Nat → Int32) × (Nat → Int32) × Int32 × Int32 × Int32 × Int32))) = some res := h
  refine ct_entry (cc := cX2_takesStart) (nl := 2) (ret := (some .boolean)) (own := RX2) (lv0 := [(0, .ref a_t), (1, .int v1)]) (by decide) rfl rfl (Nat.le_of_ble_eq_true rfl) rfl ?_
  intro p e s m args below meth c A Q hA hQ hr hnm B
  have iX2 : ∀ w ∈ wsX20, w ∈ wsX2_takesStart := by decide +kernel
  have cut_66 : ∀ (v1 : Int32) (f_hulls : (Nat → Int32)) (f_kinds : (Nat → Int32)) (x_t_awaited : Int32) (x_t_gaps : Int32) (x_t_lastDay : Int32) (x_t_parts : Int32), m_X2_takesStart_66 v1 f_hulls f_kinds x_t_awaited x_t_gaps x_t_lastDay x_t_parts = some res → WW p l e (headSpec wsX2_takesStart ({ frames := 2, cells := 0, slots := 0, locals := 43 } : Room)).room s m args below meth c D A 2 0 0 Q [(a_t, .inr (2, [.ref b_signs, .int x_t_awaited, .int x_t_count, .ref a_kinds, .ref a_hulls, .ref b_names, .ref b_days, .int x_t_parts, .int x_t_gaps, .int x_t_lastDay])), (a_hulls, .inl (cI, 48, .inl f_hulls)), (a_kinds, .inl (cI, 48, .inl f_kinds))] [(0, .ref a_t), (1, .int v1)] [] 66 := by
    intro v1 f_hulls f_kinds x_t_awaited x_t_gaps x_t_lastDay x_t_parts h
    replace h : (if v1 < 65 then (some (0, (f_hulls, f_kinds, x_t_awaited, x_t_gaps, x_t_lastDay, x_t_parts))) else (if 70 < v1 then (some (0, (f_hulls, f_kinds, x_t_awaited, x_t_gaps, x_t_lastDay, x_t_parts))) else (ogb (m_X2_startsSail x_t_parts f_hulls x_t_awaited (v1 - 65)) (fun q_83 => if q_83.1 = 0 then (some (0, (q_83.2.1, f_kinds, q_83.2.2, x_t_gaps, x_t_lastDay, x_t_parts))) else (some (1, (q_83.2.1, f_kinds, q_83.2.2, x_t_gaps, x_t_lastDay, x_t_parts)))))) : Option (Int32 × ((Nat → Int32) × (Nat → Int32) × Int32 × Int32 × Int32 × Int32))) = some res := h
    refine ww_iload_n B dX2_takesStart_66 1 rfl ?_
    refine ww_bipush B dX2_takesStart_67 (v := 65) (by decide) ?_
    refine ww_icmp_lt B 93 dX2_takesStart_69 (by decide) (fun c_69 => ?_) (fun c_69 => ?_)
    · replace h := og_t c_69 h
      refine ww_iconst B dX2_takesStart_93 (v := 0) (by decide) ?_
      exact ww_zret B hA hQ hr (Or.inl rfl) dX2_takesStart_94 (f_hulls, f_kinds, x_t_awaited, x_t_gaps, x_t_lastDay, x_t_parts) [0, 1, 2] rfl (by decide) (og_p h)
    · replace h := og_f c_69 h
      refine ww_iload_n B dX2_takesStart_72 1 rfl ?_
      refine ww_bipush B dX2_takesStart_73 (v := 70) (by decide) ?_
      refine ww_icmp_gt B 93 dX2_takesStart_75 (by decide) (fun c_75 => ?_) (fun c_75 => ?_)
      · replace h := og_t c_75 h
        refine ww_iconst B dX2_takesStart_93 (v := 0) (by decide) ?_
        exact ww_zret B hA hQ hr (Or.inl rfl) dX2_takesStart_94 (f_hulls, f_kinds, x_t_awaited, x_t_gaps, x_t_lastDay, x_t_parts) [0, 1, 2] rfl (by decide) (og_p h)
      · replace h := og_f c_75 h
        refine ww_aload_n B dX2_takesStart_78 0 rfl ?_
        refine ww_iload_n B dX2_takesStart_79 1 rfl ?_
        refine ww_bipush B dX2_takesStart_80 (v := 65) (by decide) ?_
        refine ww_isub B dX2_takesStart_82 ?_
        obtain ⟨q_83, hq_83, h⟩ := og_b h
        refine ww_ciM B (k' := 0) (n' := 0) rfl rfl [0, 1] [2] (wr := [(a_kinds, .inl (cI, 48, .inl f_kinds))]) (st := []) rfl rfl (by decide) (rr_V B (c_X2_startsSail l D cI cZ a_t a_hulls b_signs a_kinds b_names b_days f_hulls x_t_awaited x_t_count x_t_parts x_t_gaps x_t_lastDay (v1 - 65) hq_83) gX2_takesStart_X2_startsSail rfl rfl rfl (N := 1) rfl (by decide +kernel) ⟨Nat.le_of_ble_eq_true rfl, Nat.le_of_ble_eq_true rfl⟩ rfl dX2_takesStart_83 0 rfl rfl (Nat.le_of_ble_eq_true rfl) ⟨Nat.le_of_ble_eq_true rfl, Nat.le_of_ble_eq_true rfl⟩) (ws' := [(a_kinds, .inl (cI, 48, .inl f_kinds)), (a_t, .inr (2, [.ref b_signs, .int q_83.2.2, .int x_t_count, .ref a_kinds, .ref a_hulls, .ref b_names, .ref b_days, .int x_t_parts, .int x_t_gaps, .int x_t_lastDay])), (a_hulls, .inl (cI, 48, .inl q_83.2.1))]) rfl ?_
        refine ww_if_eq B 93 dX2_takesStart_86 (by decide) (fun c_86 => ?_) (fun c_86 => ?_)
        · replace h := og_t c_86 h
          refine ww_iconst B dX2_takesStart_93 (v := 0) (by decide) ?_
          exact ww_zret B hA hQ hr (Or.inl rfl) dX2_takesStart_94 (q_83.2.1, f_kinds, q_83.2.2, x_t_gaps, x_t_lastDay, x_t_parts) [1, 2, 0] rfl (by decide) (og_p h)
        · replace h := og_f c_86 h
          refine ww_iconst B dX2_takesStart_89 (v := 1) (by decide) ?_
          refine ww_goto B 94 dX2_takesStart_90 (by decide) ?_
          exact ww_zret B hA hQ hr (Or.inr rfl) dX2_takesStart_94 (q_83.2.1, f_kinds, q_83.2.2, x_t_gaps, x_t_lastDay, x_t_parts) [1, 2, 0] rfl (by decide) (og_p h)
  refine ww_iload_n B dX2_takesStart_0 1 rfl ?_
  refine ww_bipush B dX2_takesStart_1 (v := 46) (by decide) ?_
  refine ww_icmp_ne B 23 dX2_takesStart_3 (by decide) (fun c_3 => ?_) (fun c_3 => ?_)
  · replace h := og_f c_3 h
    refine ww_iload_n B dX2_takesStart_23 1 rfl ?_
    refine ww_bipush B dX2_takesStart_24 (v := 33) (by decide) ?_
    refine ww_icmp_ne B 36 dX2_takesStart_26 (by decide) (fun c_26 => ?_) (fun c_26 => ?_)
    · replace h := og_f c_26 h
      refine ww_iload_n B dX2_takesStart_36 1 rfl ?_
      refine ww_bipush B dX2_takesStart_37 (v := 63) (by decide) ?_
      refine ww_icmp_ne B 66 dX2_takesStart_39 (by decide) (fun c_39 => ?_) (fun c_39 => ?_)
      · replace h := og_f c_39 h
        exact cut_66 _ _ _ _ _ _ _ h
      · replace h := og_t c_39 h
        refine ww_aload_n B dX2_takesStart_42 0 rfl ?_
        refine ww_get (ci := 2) (T := TX2) (C := RX2) (N := 10) B iX2 0 rfl rfl 8 (by decide) (by decide +kernel) rfl rfl dX2_takesStart_43 ?_
        refine ww_iconst B dX2_takesStart_46 (v := 4) (by decide) ?_
        refine ww_icmp_ge B 66 dX2_takesStart_47 (by decide) (fun c_47 => ?_) (fun c_47 => ?_)
        · replace h := og_t c_47 h
          exact cut_66 _ _ _ _ _ _ _ h
        · replace h := og_f c_47 h
          refine ww_aload_n B dX2_takesStart_50 0 rfl ?_
          refine ww_dup B dX2_takesStart_51 rfl ?_
          refine ww_get (ci := 2) (T := TX2) (C := RX2) (N := 10) B iX2 0 rfl rfl 8 (by decide) (by decide +kernel) rfl rfl dX2_takesStart_52 ?_
          refine ww_iconst B dX2_takesStart_55 (v := 1) (by decide) ?_
          refine ww_iadd B dX2_takesStart_56 ?_
          refine ww_topi (fun w_57 ew_57 => ?_)
          replace h := og_l ew_57 h
          refine ww_put (ci := 2) (T := TX2) (C := RX2) (N := 10) (ty := .int) B iX2 tyX2 tyX2_ok nmX2 0 rfl rfl 8 (by decide) (by decide +kernel) rfl rfl (by decide +kernel) rfl rfl (Nat.le_of_ble_eq_true rfl) dX2_takesStart_57 (ws' := [(a_t, .inr (2, [.ref b_signs, .int x_t_awaited, .int x_t_count, .ref a_kinds, .ref a_hulls, .ref b_names, .ref b_days, .int x_t_parts, .int w_57, .int x_t_lastDay])), (a_hulls, .inl (cI, 48, .inl f_hulls)), (a_kinds, .inl (cI, 48, .inl f_kinds))]) rfl ?_
          refine ww_aload_n B dX2_takesStart_60 0 rfl ?_
          refine ww_iconst B dX2_takesStart_61 (v := (-1)) (by decide) ?_
          obtain ⟨q_62, hq_62, h⟩ := og_b h
          refine ww_ciM B (k' := 0) (n' := 0) rfl rfl [0, 1] [2] (wr := [(a_kinds, .inl (cI, 48, .inl f_kinds))]) (st := []) rfl rfl (by decide) (rr_V B (c_X2_startsSail l D cI cZ a_t a_hulls b_signs a_kinds b_names b_days f_hulls x_t_awaited x_t_count x_t_parts w_57 x_t_lastDay (-1) hq_62) gX2_takesStart_X2_startsSail rfl rfl rfl (N := 1) rfl (by decide +kernel) ⟨Nat.le_of_ble_eq_true rfl, Nat.le_of_ble_eq_true rfl⟩ rfl dX2_takesStart_62 0 rfl rfl (Nat.le_of_ble_eq_true rfl) ⟨Nat.le_of_ble_eq_true rfl, Nat.le_of_ble_eq_true rfl⟩) (ws' := [(a_kinds, .inl (cI, 48, .inl f_kinds)), (a_t, .inr (2, [.ref b_signs, .int q_62.2.2, .int x_t_count, .ref a_kinds, .ref a_hulls, .ref b_names, .ref b_days, .int x_t_parts, .int w_57, .int x_t_lastDay])), (a_hulls, .inl (cI, 48, .inl q_62.2.1))]) rfl ?_
          obtain ⟨z_65, h⟩ := og_y h
          exact ww_zret B hA hQ hr z_65 dX2_takesStart_65 (q_62.2.1, f_kinds, q_62.2.2, w_57, x_t_lastDay, x_t_parts) [1, 2, 0] rfl (by decide) (og_p h)
    · replace h := og_t c_26 h
      refine ww_aload_n B dX2_takesStart_29 0 rfl ?_
      refine ww_iconst B dX2_takesStart_30 (v := 3) (by decide) ?_
      refine ww_put (ci := 2) (T := TX2) (C := RX2) (N := 10) (ty := .int) B iX2 tyX2 tyX2_ok nmX2 0 rfl rfl 1 (by decide) (by decide +kernel) rfl rfl (by decide +kernel) rfl rfl (Nat.le_of_ble_eq_true rfl) dX2_takesStart_31 (ws' := [(a_t, .inr (2, [.ref b_signs, .int 3, .int x_t_count, .ref a_kinds, .ref a_hulls, .ref b_names, .ref b_days, .int x_t_parts, .int x_t_gaps, .int x_t_lastDay])), (a_hulls, .inl (cI, 48, .inl f_hulls)), (a_kinds, .inl (cI, 48, .inl f_kinds))]) rfl ?_
      refine ww_iconst B dX2_takesStart_34 (v := 1) (by decide) ?_
      exact ww_zret B hA hQ hr (Or.inr rfl) dX2_takesStart_35 (f_hulls, f_kinds, 3, x_t_gaps, x_t_lastDay, x_t_parts) [0, 1, 2] rfl (by decide) (og_p h)
  · replace h := og_t c_3 h
    refine ww_aload_n B dX2_takesStart_6 0 rfl ?_
    refine ww_dup B dX2_takesStart_7 rfl ?_
    refine ww_get (ci := 2) (T := TX2) (C := RX2) (N := 10) B iX2 0 rfl rfl 9 (by decide) (by decide +kernel) rfl rfl dX2_takesStart_8 ?_
    refine ww_iconst B dX2_takesStart_11 (v := 1) (by decide) ?_
    refine ww_iadd B dX2_takesStart_12 ?_
    refine ww_topi (fun w_13 ew_13 => ?_)
    replace h := og_l ew_13 h
    refine ww_put (ci := 2) (T := TX2) (C := RX2) (N := 10) (ty := .int) B iX2 tyX2 tyX2_ok nmX2 0 rfl rfl 9 (by decide) (by decide +kernel) rfl rfl (by decide +kernel) rfl rfl (Nat.le_of_ble_eq_true rfl) dX2_takesStart_13 (ws' := [(a_t, .inr (2, [.ref b_signs, .int x_t_awaited, .int x_t_count, .ref a_kinds, .ref a_hulls, .ref b_names, .ref b_days, .int x_t_parts, .int x_t_gaps, .int w_13])), (a_hulls, .inl (cI, 48, .inl f_hulls)), (a_kinds, .inl (cI, 48, .inl f_kinds))]) rfl ?_
    refine ww_aload_n B dX2_takesStart_16 0 rfl ?_
    refine ww_iconst B dX2_takesStart_17 (v := 2) (by decide) ?_
    obtain ⟨q_18, hq_18, h⟩ := og_b h
    refine ww_cvM B (k' := 0) (n' := 0) rfl rfl [0, 2] [1] (wr := [(a_hulls, .inl (cI, 48, .inl f_hulls))]) (st := []) rfl rfl (by decide) (rr_V B (c_X2_close l D cI cZ a_t a_kinds b_signs a_hulls b_names b_days f_kinds x_t_awaited x_t_count x_t_parts x_t_gaps w_13 2 hq_18) gX2_takesStart_X2_close rfl rfl rfl (N := 1) rfl (by decide +kernel) ⟨Nat.le_of_ble_eq_true rfl, Nat.le_of_ble_eq_true rfl⟩ rfl dX2_takesStart_18 0 rfl rfl (Nat.le_of_ble_eq_true rfl) ⟨Nat.le_of_ble_eq_true rfl, Nat.le_of_ble_eq_true rfl⟩) (ws' := [(a_hulls, .inl (cI, 48, .inl f_hulls)), (a_t, .inr (2, [.ref b_signs, .int q_18.2.1, .int x_t_count, .ref a_kinds, .ref a_hulls, .ref b_names, .ref b_days, .int q_18.2.2, .int x_t_gaps, .int w_13])), (a_kinds, .inl (cI, 48, .inl q_18.1))]) rfl ?_
    refine ww_iconst B dX2_takesStart_21 (v := 1) (by decide) ?_
    exact ww_zret B hA hQ hr (Or.inr rfl) dX2_takesStart_22 (f_hulls, q_18.1, q_18.2.1, x_t_gaps, w_13, q_18.2.2) [1, 0, 2] rfl (by decide) (og_p h)
noncomputable def m_X2_takesDays (f_days : (Nat → Int32)) (f_kinds : (Nat → Int32)) (x_t_awaited : Int32) (x_t_parts : Int32) (v1 : Int32) : Option (Int32 × ((Nat → Int32) × (Nat → Int32) × Int32 × Int32)) := if v1 < 49 then (some (0, (f_days, f_kinds, x_t_awaited, x_t_parts))) else (if v1 ≤ 57 then (ogb (m_X7_put 48 f_days x_t_parts (v1 - 48)) (fun q_26 => ogb (m_X2_close f_kinds x_t_awaited x_t_parts 0) (fun q_31 => some (1, (q_26, q_31.1, q_31.2.1, q_31.2.2))))) else (some (0, (f_days, f_kinds, x_t_awaited, x_t_parts))))
set_option maxHeartbeats 4000000 in
set_option maxRecDepth 100000 in
theorem c_X2_takesDays (l : Launch) (D : va_G) (cI cZ : ClassId) (a_t a_days a_kinds b_signs b_hulls b_names : Nat) (f_days : (Nat → Int32)) (f_kinds : (Nat → Int32)) (x_t_awaited : Int32) (x_t_count : Int32) (x_t_parts : Int32) (x_t_gaps : Int32) (x_t_lastDay : Int32) (v1 : Int32) {res : (Int32 × ((Nat → Int32) × (Nat → Int32) × Int32 × Int32))} (h : m_X2_takesDays f_days f_kinds x_t_awaited x_t_parts v1 = some res) : CT l yX2_takesDays wsX2_takesDays ({ frames := 2, cells := 0, slots := 0, locals := 43 } : Room) D cI cZ [.ref a_t, .int v1] [(a_t, .inr (2, [.ref b_signs, .int x_t_awaited, .int x_t_count, .ref a_kinds, .ref b_hulls, .ref b_names, .ref a_days, .int x_t_parts, .int x_t_gaps, .int x_t_lastDay])), (a_days, .inl (cI, 48, .inl f_days)), (a_kinds, .inl (cI, 48, .inl f_kinds))] (QI D [(a_t, .inr (2, [.ref b_signs, .int x_t_awaited, .int x_t_count, .ref a_kinds, .ref b_hulls, .ref b_names, .ref a_days, .int x_t_parts, .int x_t_gaps, .int x_t_lastDay])), (a_days, .inl (cI, 48, .inl f_days)), (a_kinds, .inl (cI, 48, .inl f_kinds))] (fun (r : Int32) (u : (Nat → Int32) × (Nat → Int32) × Int32 × Int32) => r = res.1 ∧ u = res.2) (fun (u : (Nat → Int32) × (Nat → Int32) × Int32 × Int32) => [(a_t, .inr (2, [.ref b_signs, .int u.2.2.1, .int x_t_count, .ref a_kinds, .ref b_hulls, .ref b_names, .ref a_days, .int u.2.2.2, .int x_t_gaps, .int x_t_lastDay])), (a_days, .inl (cI, 48, .inl u.1)), (a_kinds, .inl (cI, 48, .inl u.2.1))])) 0 0 := by
  have h : (if v1 < 49 then (some (0, (f_days, f_kinds, x_t_awaited, x_t_parts))) else (if v1 ≤ 57 then (ogb (m_X7_put 48 f_days x_t_parts (v1 - 48)) (fun q_26 => ogb (m_X2_close f_kinds x_t_awaited x_t_parts 0) (fun q_31 => some (1, (q_26, q_31.1, q_31.2.1, q_31.2.2))))) else (some (0, (f_days, f_kinds, x_t_awaited, x_t_parts)))) : Option (Int32 × ((Nat → Int32) × (Nat → Int32) × Int32 × Int32))) = some res := h
  refine ct_entry (cc := cX2_takesDays) (nl := 2) (ret := (some .boolean)) (own := RX2) (lv0 := [(0, .ref a_t), (1, .int v1)]) (by decide) rfl rfl (Nat.le_of_ble_eq_true rfl) rfl ?_
  intro p e s m args below meth c A Q hA hQ hr hnm B
  have iX2 : ∀ w ∈ wsX20, w ∈ wsX2_takesDays := by decide +kernel
  refine ww_iload_n B dX2_takesDays_0 1 rfl ?_
  refine ww_bipush B dX2_takesDays_1 (v := 49) (by decide) ?_
  refine ww_icmp_lt B 12 dX2_takesDays_3 (by decide) (fun c_3 => ?_) (fun c_3 => ?_)
  · replace h := og_t c_3 h
    refine ww_iconst B dX2_takesDays_12 (v := 0) (by decide) ?_
    exact ww_zret B hA hQ hr (Or.inl rfl) dX2_takesDays_13 (f_days, f_kinds, x_t_awaited, x_t_parts) [0, 1, 2] rfl (by decide) (og_p h)
  · replace h := og_f c_3 h
    refine ww_iload_n B dX2_takesDays_6 1 rfl ?_
    refine ww_bipush B dX2_takesDays_7 (v := 57) (by decide) ?_
    refine ww_icmp_le B 14 dX2_takesDays_9 (by decide) (fun c_9 => ?_) (fun c_9 => ?_)
    · replace h := og_t c_9 h
      refine ww_aload_n B dX2_takesDays_14 0 rfl ?_
      refine ww_get (ci := 2) (T := TX2) (C := RX2) (N := 10) B iX2 0 rfl rfl 6 (by decide) (by decide +kernel) rfl rfl dX2_takesDays_15 ?_
      refine ww_aload_n B dX2_takesDays_18 0 rfl ?_
      refine ww_get (ci := 2) (T := TX2) (C := RX2) (N := 10) B iX2 0 rfl rfl 7 (by decide) (by decide +kernel) rfl rfl dX2_takesDays_19 ?_
      refine ww_iload_n B dX2_takesDays_22 1 rfl ?_
      refine ww_bipush B dX2_takesDays_23 (v := 48) (by decide) ?_
      refine ww_isub B dX2_takesDays_25 ?_
      obtain ⟨q_26, hq_26, h⟩ := og_b h
      refine ww_cvM B (k' := 0) (n' := 0) rfl rfl [1] [0, 2] (wr := [(a_t, .inr (2, [.ref b_signs, .int x_t_awaited, .int x_t_count, .ref a_kinds, .ref b_hulls, .ref b_names, .ref a_days, .int x_t_parts, .int x_t_gaps, .int x_t_lastDay])), (a_kinds, .inl (cI, 48, .inl f_kinds))]) (st := []) rfl rfl (by decide) (rr_SN B (c_X7_put l D cI cZ a_days 48 f_days x_t_parts (v1 - 48) hq_26) gX2_takesDays_X7_put_n63 rfl rfl rfl (by decide +kernel) (by decide +kernel) (by decide +kernel) (N := 3) rfl (by decide +kernel) ⟨Nat.le_of_ble_eq_true rfl, Nat.le_of_ble_eq_true rfl⟩ rfl dX2_takesDays_26 (Nat.le_of_ble_eq_true rfl) ⟨Nat.le_of_ble_eq_true rfl, Nat.le_of_ble_eq_true rfl⟩) (ws' := [(a_t, .inr (2, [.ref b_signs, .int x_t_awaited, .int x_t_count, .ref a_kinds, .ref b_hulls, .ref b_names, .ref a_days, .int x_t_parts, .int x_t_gaps, .int x_t_lastDay])), (a_kinds, .inl (cI, 48, .inl f_kinds)), (a_days, .inl (cI, 48, .inl q_26))]) rfl ?_
      refine ww_aload_n B dX2_takesDays_29 0 rfl ?_
      refine ww_iconst B dX2_takesDays_30 (v := 0) (by decide) ?_
      obtain ⟨q_31, hq_31, h⟩ := og_b h
      refine ww_cvM B (k' := 0) (n' := 0) rfl rfl [0, 1] [2] (wr := [(a_days, .inl (cI, 48, .inl q_26))]) (st := []) rfl rfl (by decide) (rr_V B (c_X2_close l D cI cZ a_t a_kinds b_signs b_hulls b_names a_days f_kinds x_t_awaited x_t_count x_t_parts x_t_gaps x_t_lastDay 0 hq_31) gX2_takesDays_X2_close rfl rfl rfl (N := 1) rfl (by decide +kernel) ⟨Nat.le_of_ble_eq_true rfl, Nat.le_of_ble_eq_true rfl⟩ rfl dX2_takesDays_31 0 rfl rfl (Nat.le_of_ble_eq_true rfl) ⟨Nat.le_of_ble_eq_true rfl, Nat.le_of_ble_eq_true rfl⟩) (ws' := [(a_days, .inl (cI, 48, .inl q_26)), (a_t, .inr (2, [.ref b_signs, .int q_31.2.1, .int x_t_count, .ref a_kinds, .ref b_hulls, .ref b_names, .ref a_days, .int q_31.2.2, .int x_t_gaps, .int x_t_lastDay])), (a_kinds, .inl (cI, 48, .inl q_31.1))]) rfl ?_
      refine ww_iconst B dX2_takesDays_34 (v := 1) (by decide) ?_
      exact ww_zret B hA hQ hr (Or.inr rfl) dX2_takesDays_35 (q_26, q_31.1, q_31.2.1, q_31.2.2) [1, 0, 2] rfl (by decide) (og_p h)
    · replace h := og_f c_9 h
      refine ww_iconst B dX2_takesDays_12 (v := 0) (by decide) ?_
      exact ww_zret B hA hQ hr (Or.inl rfl) dX2_takesDays_13 (f_days, f_kinds, x_t_awaited, x_t_parts) [0, 1, 2] rfl (by decide) (og_p h)
noncomputable def m_X2_takesName (f_kinds : (Nat → Int32)) (f_names : (Nat → Int32)) (x_t_awaited : Int32) (x_t_parts : Int32) (v1 : Int32) : Option (Int32 × ((Nat → Int32) × (Nat → Int32) × Int32 × Int32)) := if v1 < 97 then (some (0, (f_kinds, f_names, x_t_awaited, x_t_parts))) else (if v1 ≤ 101 then (ogb (m_X7_put 48 f_names x_t_parts (v1 - 97)) (fun q_26 => if x_t_awaited = 1 then (some (1, (f_kinds, q_26, 2, x_t_parts))) else (ogb (m_X2_close f_kinds x_t_awaited x_t_parts 1) (fun q_47 => some (1, (q_47.1, q_26, q_47.2.1, q_47.2.2)))))) else (some (0, (f_kinds, f_names, x_t_awaited, x_t_parts))))
set_option maxHeartbeats 4000000 in
set_option maxRecDepth 100000 in
theorem c_X2_takesName (l : Launch) (D : va_G) (cI cZ : ClassId) (a_t a_kinds a_names b_signs b_hulls b_days : Nat) (f_kinds : (Nat → Int32)) (f_names : (Nat → Int32)) (x_t_awaited : Int32) (x_t_count : Int32) (x_t_parts : Int32) (x_t_gaps : Int32) (x_t_lastDay : Int32) (v1 : Int32) {res : (Int32 × ((Nat → Int32) × (Nat → Int32) × Int32 × Int32))} (h : m_X2_takesName f_kinds f_names x_t_awaited x_t_parts v1 = some res) : CT l yX2_takesName wsX2_takesName ({ frames := 2, cells := 0, slots := 0, locals := 43 } : Room) D cI cZ [.ref a_t, .int v1] [(a_t, .inr (2, [.ref b_signs, .int x_t_awaited, .int x_t_count, .ref a_kinds, .ref b_hulls, .ref a_names, .ref b_days, .int x_t_parts, .int x_t_gaps, .int x_t_lastDay])), (a_kinds, .inl (cI, 48, .inl f_kinds)), (a_names, .inl (cI, 48, .inl f_names))] (QI D [(a_t, .inr (2, [.ref b_signs, .int x_t_awaited, .int x_t_count, .ref a_kinds, .ref b_hulls, .ref a_names, .ref b_days, .int x_t_parts, .int x_t_gaps, .int x_t_lastDay])), (a_kinds, .inl (cI, 48, .inl f_kinds)), (a_names, .inl (cI, 48, .inl f_names))] (fun (r : Int32) (u : (Nat → Int32) × (Nat → Int32) × Int32 × Int32) => r = res.1 ∧ u = res.2) (fun (u : (Nat → Int32) × (Nat → Int32) × Int32 × Int32) => [(a_t, .inr (2, [.ref b_signs, .int u.2.2.1, .int x_t_count, .ref a_kinds, .ref b_hulls, .ref a_names, .ref b_days, .int u.2.2.2, .int x_t_gaps, .int x_t_lastDay])), (a_kinds, .inl (cI, 48, .inl u.1)), (a_names, .inl (cI, 48, .inl u.2.1))])) 0 0 := by
  have h : (if v1 < 97 then (some (0, (f_kinds, f_names, x_t_awaited, x_t_parts))) else (if v1 ≤ 101 then (ogb (m_X7_put 48 f_names x_t_parts (v1 - 97)) (fun q_26 => if x_t_awaited = 1 then (some (1, (f_kinds, q_26, 2, x_t_parts))) else (ogb (m_X2_close f_kinds x_t_awaited x_t_parts 1) (fun q_47 => some (1, (q_47.1, q_26, q_47.2.1, q_47.2.2)))))) else (some (0, (f_kinds, f_names, x_t_awaited, x_t_parts)))) : Option (Int32 × ((Nat → Int32) × (Nat → Int32) × Int32 × Int32))) = some res := h
  refine ct_entry (cc := cX2_takesName) (nl := 2) (ret := (some .boolean)) (own := RX2) (lv0 := [(0, .ref a_t), (1, .int v1)]) (by decide) rfl rfl (Nat.le_of_ble_eq_true rfl) rfl ?_
  intro p e s m args below meth c A Q hA hQ hr hnm B
  have iX2 : ∀ w ∈ wsX20, w ∈ wsX2_takesName := by decide +kernel
  refine ww_iload_n B dX2_takesName_0 1 rfl ?_
  refine ww_bipush B dX2_takesName_1 (v := 97) (by decide) ?_
  refine ww_icmp_lt B 12 dX2_takesName_3 (by decide) (fun c_3 => ?_) (fun c_3 => ?_)
  · replace h := og_t c_3 h
    refine ww_iconst B dX2_takesName_12 (v := 0) (by decide) ?_
    exact ww_zret B hA hQ hr (Or.inl rfl) dX2_takesName_13 (f_kinds, f_names, x_t_awaited, x_t_parts) [0, 1, 2] rfl (by decide) (og_p h)
  · replace h := og_f c_3 h
    refine ww_iload_n B dX2_takesName_6 1 rfl ?_
    refine ww_bipush B dX2_takesName_7 (v := 101) (by decide) ?_
    refine ww_icmp_le B 14 dX2_takesName_9 (by decide) (fun c_9 => ?_) (fun c_9 => ?_)
    · replace h := og_t c_9 h
      refine ww_aload_n B dX2_takesName_14 0 rfl ?_
      refine ww_get (ci := 2) (T := TX2) (C := RX2) (N := 10) B iX2 0 rfl rfl 5 (by decide) (by decide +kernel) rfl rfl dX2_takesName_15 ?_
      refine ww_aload_n B dX2_takesName_18 0 rfl ?_
      refine ww_get (ci := 2) (T := TX2) (C := RX2) (N := 10) B iX2 0 rfl rfl 7 (by decide) (by decide +kernel) rfl rfl dX2_takesName_19 ?_
      refine ww_iload_n B dX2_takesName_22 1 rfl ?_
      refine ww_bipush B dX2_takesName_23 (v := 97) (by decide) ?_
      refine ww_isub B dX2_takesName_25 ?_
      obtain ⟨q_26, hq_26, h⟩ := og_b h
      refine ww_cvM B (k' := 0) (n' := 0) rfl rfl [2] [0, 1] (wr := [(a_t, .inr (2, [.ref b_signs, .int x_t_awaited, .int x_t_count, .ref a_kinds, .ref b_hulls, .ref a_names, .ref b_days, .int x_t_parts, .int x_t_gaps, .int x_t_lastDay])), (a_kinds, .inl (cI, 48, .inl f_kinds))]) (st := []) rfl rfl (by decide) (rr_SN B (c_X7_put l D cI cZ a_names 48 f_names x_t_parts (v1 - 97) hq_26) gX2_takesName_X7_put_n63 rfl rfl rfl (by decide +kernel) (by decide +kernel) (by decide +kernel) (N := 3) rfl (by decide +kernel) ⟨Nat.le_of_ble_eq_true rfl, Nat.le_of_ble_eq_true rfl⟩ rfl dX2_takesName_26 (Nat.le_of_ble_eq_true rfl) ⟨Nat.le_of_ble_eq_true rfl, Nat.le_of_ble_eq_true rfl⟩) (ws' := [(a_t, .inr (2, [.ref b_signs, .int x_t_awaited, .int x_t_count, .ref a_kinds, .ref b_hulls, .ref a_names, .ref b_days, .int x_t_parts, .int x_t_gaps, .int x_t_lastDay])), (a_kinds, .inl (cI, 48, .inl f_kinds)), (a_names, .inl (cI, 48, .inl q_26))]) rfl ?_
      refine ww_aload_n B dX2_takesName_29 0 rfl ?_
      refine ww_get (ci := 2) (T := TX2) (C := RX2) (N := 10) B iX2 0 rfl rfl 1 (by decide) (by decide +kernel) rfl rfl dX2_takesName_30 ?_
      refine ww_iconst B dX2_takesName_33 (v := 1) (by decide) ?_
      refine ww_icmp_ne B 45 dX2_takesName_34 (by decide) (fun c_34 => ?_) (fun c_34 => ?_)
      · replace h := og_f c_34 h
        refine ww_aload_n B dX2_takesName_45 0 rfl ?_
        refine ww_iconst B dX2_takesName_46 (v := 1) (by decide) ?_
        obtain ⟨q_47, hq_47, h⟩ := og_b h
        refine ww_cvM B (k' := 0) (n' := 0) rfl rfl [0, 1] [2] (wr := [(a_names, .inl (cI, 48, .inl q_26))]) (st := []) rfl rfl (by decide) (rr_V B (c_X2_close l D cI cZ a_t a_kinds b_signs b_hulls a_names b_days f_kinds x_t_awaited x_t_count x_t_parts x_t_gaps x_t_lastDay 1 hq_47) gX2_takesName_X2_close rfl rfl rfl (N := 1) rfl (by decide +kernel) ⟨Nat.le_of_ble_eq_true rfl, Nat.le_of_ble_eq_true rfl⟩ rfl dX2_takesName_47 0 rfl rfl (Nat.le_of_ble_eq_true rfl) ⟨Nat.le_of_ble_eq_true rfl, Nat.le_of_ble_eq_true rfl⟩) (ws' := [(a_names, .inl (cI, 48, .inl q_26)), (a_t, .inr (2, [.ref b_signs, .int q_47.2.1, .int x_t_count, .ref a_kinds, .ref b_hulls, .ref a_names, .ref b_days, .int q_47.2.2, .int x_t_gaps, .int x_t_lastDay])), (a_kinds, .inl (cI, 48, .inl q_47.1))]) rfl ?_
        refine ww_iconst B dX2_takesName_50 (v := 1) (by decide) ?_
        exact ww_zret B hA hQ hr (Or.inr rfl) dX2_takesName_51 (q_47.1, q_26, q_47.2.1, q_47.2.2) [1, 2, 0] rfl (by decide) (og_p h)
      · replace h := og_t c_34 h
        refine ww_aload_n B dX2_takesName_37 0 rfl ?_
        refine ww_iconst B dX2_takesName_38 (v := 2) (by decide) ?_
        refine ww_put (ci := 2) (T := TX2) (C := RX2) (N := 10) (ty := .int) B iX2 tyX2 tyX2_ok nmX2 0 rfl rfl 1 (by decide) (by decide +kernel) rfl rfl (by decide +kernel) rfl rfl (Nat.le_of_ble_eq_true rfl) dX2_takesName_39 (ws' := [(a_t, .inr (2, [.ref b_signs, .int 2, .int x_t_count, .ref a_kinds, .ref b_hulls, .ref a_names, .ref b_days, .int x_t_parts, .int x_t_gaps, .int x_t_lastDay])), (a_kinds, .inl (cI, 48, .inl f_kinds)), (a_names, .inl (cI, 48, .inl q_26))]) rfl ?_
        refine ww_goto B 50 dX2_takesName_42 (by decide) ?_
        refine ww_iconst B dX2_takesName_50 (v := 1) (by decide) ?_
        exact ww_zret B hA hQ hr (Or.inr rfl) dX2_takesName_51 (f_kinds, q_26, 2, x_t_parts) [0, 1, 2] rfl (by decide) (og_p h)
    · replace h := og_f c_9 h
      refine ww_iconst B dX2_takesName_12 (v := 0) (by decide) ?_
      exact ww_zret B hA hQ hr (Or.inl rfl) dX2_takesName_13 (f_kinds, f_names, x_t_awaited, x_t_parts) [0, 1, 2] rfl (by decide) (og_p h)
noncomputable def m_X2_takes (f_days : (Nat → Int32)) (f_hulls : (Nat → Int32)) (f_kinds : (Nat → Int32)) (f_names : (Nat → Int32)) (x_t_awaited : Int32) (x_t_gaps : Int32) (x_t_lastDay : Int32) (x_t_parts : Int32) (v1 : Int32) : Option (Int32 × ((Nat → Int32) × (Nat → Int32) × (Nat → Int32) × (Nat → Int32) × Int32 × Int32 × Int32 × Int32)) := if x_t_awaited = 0 then (ogb (m_X2_takesStart f_hulls f_kinds x_t_awaited x_t_gaps x_t_lastDay x_t_parts v1) (fun q_34 => ogy (q_34.1 = 0 ∨ q_34.1 = 1) (some (q_34.1, (f_days, q_34.2.1, q_34.2.2.1, f_names, q_34.2.2.2.1, q_34.2.2.2.2.1, q_34.2.2.2.2.2.1, q_34.2.2.2.2.2.2))))) else (if x_t_awaited = 2 then (ogb (m_X2_takesDays f_days f_kinds x_t_awaited x_t_parts v1) (fun q_40 => ogy (q_40.1 = 0 ∨ q_40.1 = 1) (some (q_40.1, (q_40.2.1, f_hulls, q_40.2.2.1, f_names, q_40.2.2.2.1, x_t_gaps, x_t_lastDay, q_40.2.2.2.2))))) else (ogb (m_X2_takesName f_kinds f_names x_t_awaited x_t_parts v1) (fun q_46 => ogy (q_46.1 = 0 ∨ q_46.1 = 1) (some (q_46.1, (f_days, f_hulls, q_46.2.1, q_46.2.2.1, q_46.2.2.2.1, x_t_gaps, x_t_lastDay, q_46.2.2.2.2))))))
set_option maxHeartbeats 4000000 in
set_option maxRecDepth 100000 in
theorem c_X2_takes (l : Launch) (D : va_G) (cI cZ : ClassId) (a_t a_days a_hulls a_kinds a_names b_signs : Nat) (f_days : (Nat → Int32)) (f_hulls : (Nat → Int32)) (f_kinds : (Nat → Int32)) (f_names : (Nat → Int32)) (x_t_awaited : Int32) (x_t_count : Int32) (x_t_parts : Int32) (x_t_gaps : Int32) (x_t_lastDay : Int32) (v1 : Int32) {res : (Int32 × ((Nat → Int32) × (Nat → Int32) × (Nat → Int32) × (Nat → Int32) × Int32 × Int32 × Int32 × Int32))} (h : m_X2_takes f_days f_hulls f_kinds f_names x_t_awaited x_t_gaps x_t_lastDay x_t_parts v1 = some res) : CT l yX2_takes wsX2_takes ({ frames := 3, cells := 0, slots := 0, locals := 64 } : Room) D cI cZ [.ref a_t, .int v1] [(a_t, .inr (2, [.ref b_signs, .int x_t_awaited, .int x_t_count, .ref a_kinds, .ref a_hulls, .ref a_names, .ref a_days, .int x_t_parts, .int x_t_gaps, .int x_t_lastDay])), (a_days, .inl (cI, 48, .inl f_days)), (a_hulls, .inl (cI, 48, .inl f_hulls)), (a_kinds, .inl (cI, 48, .inl f_kinds)), (a_names, .inl (cI, 48, .inl f_names))] (QI D [(a_t, .inr (2, [.ref b_signs, .int x_t_awaited, .int x_t_count, .ref a_kinds, .ref a_hulls, .ref a_names, .ref a_days, .int x_t_parts, .int x_t_gaps, .int x_t_lastDay])), (a_days, .inl (cI, 48, .inl f_days)), (a_hulls, .inl (cI, 48, .inl f_hulls)), (a_kinds, .inl (cI, 48, .inl f_kinds)), (a_names, .inl (cI, 48, .inl f_names))] (fun (r : Int32) (u : (Nat → Int32) × (Nat → Int32) × (Nat → Int32) × (Nat → Int32) × Int32 × Int32 × Int32 × Int32) => r = res.1 ∧ u = res.2) (fun (u : (Nat → Int32) × (Nat → Int32) × (Nat → Int32) × (Nat → Int32) × Int32 × Int32 × Int32 × Int32) => [(a_t, .inr (2, [.ref b_signs, .int u.2.2.2.2.1, .int x_t_count, .ref a_kinds, .ref a_hulls, .ref a_names, .ref a_days, .int u.2.2.2.2.2.2.2, .int u.2.2.2.2.2.1, .int u.2.2.2.2.2.2.1])), (a_days, .inl (cI, 48, .inl u.1)), (a_hulls, .inl (cI, 48, .inl u.2.1)), (a_kinds, .inl (cI, 48, .inl u.2.2.1)), (a_names, .inl (cI, 48, .inl u.2.2.2.1))])) 0 0 := by
  have h : (if x_t_awaited = 0 then (ogb (m_X2_takesStart f_hulls f_kinds x_t_awaited x_t_gaps x_t_lastDay x_t_parts v1) (fun q_34 => ogy (q_34.1 = 0 ∨ q_34.1 = 1) (some (q_34.1, (f_days, q_34.2.1, q_34.2.2.1, f_names, q_34.2.2.2.1, q_34.2.2.2.2.1, q_34.2.2.2.2.2.1, q_34.2.2.2.2.2.2))))) else (if x_t_awaited = 2 then (ogb (m_X2_takesDays f_days f_kinds x_t_awaited x_t_parts v1) (fun q_40 => ogy (q_40.1 = 0 ∨ q_40.1 = 1) (some (q_40.1, (q_40.2.1, f_hulls, q_40.2.2.1, f_names, q_40.2.2.2.1, x_t_gaps, x_t_lastDay, q_40.2.2.2.2))))) else (ogb (m_X2_takesName f_kinds f_names x_t_awaited x_t_parts v1) (fun q_46 => ogy (q_46.1 = 0 ∨ q_46.1 = 1) (some (q_46.1, (f_days, f_hulls, q_46.2.1, q_46.2.2.1, q_46.2.2.2.1, x_t_gaps, x_t_lastDay, q_46.2.2.2.2)))))) : Option (Int32 × ((Nat → Int32) × (Nat → Int32) × (Nat → Int32) × (Nat → Int32) × Int32 × Int32 × Int32 × Int32))) = some res := h
  refine ct_entry (cc := cX2_takes) (nl := 2) (ret := (some .boolean)) (own := RX2) (lv0 := [(0, .ref a_t), (1, .int v1)]) (by decide) rfl rfl (Nat.le_of_ble_eq_true rfl) rfl ?_
  intro p e s m args below meth c A Q hA hQ hr hnm B
  have iX2 : ∀ w ∈ wsX20, w ∈ wsX2_takes := by decide +kernel
  refine ww_aload_n B dX2_takes_0 0 rfl ?_
  refine ww_get (ci := 2) (T := TX2) (C := RX2) (N := 10) B iX2 0 rfl rfl 1 (by decide) (by decide +kernel) rfl rfl dX2_takes_1 ?_
  by_cases c_4_0 : x_t_awaited = 0
  · replace h := og_t c_4_0 h
    refine ww_lookup B 32 dX2_takes_4 (off := 28) (by decide) (by rw [c_4_0]; decide) (by decide) ?_
    refine ww_aload_n B dX2_takes_32 0 rfl ?_
    refine ww_iload_n B dX2_takes_33 1 rfl ?_
    obtain ⟨q_34, hq_34, h⟩ := og_b h
    refine ww_ciM B (k' := 0) (n' := 0) rfl rfl [0, 2, 3] [1, 4] (wr := [(a_days, .inl (cI, 48, .inl f_days)), (a_names, .inl (cI, 48, .inl f_names))]) (st := []) rfl rfl (by decide) (rr_V B (c_X2_takesStart l D cI cZ a_t a_hulls a_kinds b_signs a_names a_days f_hulls f_kinds x_t_awaited x_t_count x_t_parts x_t_gaps x_t_lastDay v1 hq_34) gX2_takes_X2_takesStart rfl rfl rfl (N := 1) rfl (by decide +kernel) ⟨Nat.le_of_ble_eq_true rfl, Nat.le_of_ble_eq_true rfl⟩ rfl dX2_takes_34 0 rfl rfl (Nat.le_of_ble_eq_true rfl) ⟨Nat.le_of_ble_eq_true rfl, Nat.le_of_ble_eq_true rfl⟩) (ws' := [(a_days, .inl (cI, 48, .inl f_days)), (a_names, .inl (cI, 48, .inl f_names)), (a_t, .inr (2, [.ref b_signs, .int q_34.2.2.2.1, .int x_t_count, .ref a_kinds, .ref a_hulls, .ref a_names, .ref a_days, .int q_34.2.2.2.2.2.2, .int q_34.2.2.2.2.1, .int q_34.2.2.2.2.2.1])), (a_hulls, .inl (cI, 48, .inl q_34.2.1)), (a_kinds, .inl (cI, 48, .inl q_34.2.2.1))]) rfl ?_
    obtain ⟨z_37, h⟩ := og_y h
    exact ww_zret B hA hQ hr z_37 dX2_takes_37 (f_days, q_34.2.1, q_34.2.2.1, f_names, q_34.2.2.2.1, q_34.2.2.2.2.1, q_34.2.2.2.2.2.1, q_34.2.2.2.2.2.2) [2, 0, 3, 4, 1] rfl (by decide) (og_p h)
  · replace h := og_f c_4_0 h
    by_cases c_4_1 : x_t_awaited = 2
    · replace h := og_t c_4_1 h
      refine ww_lookup B 38 dX2_takes_4 (off := 34) (by decide) (by rw [c_4_1]; decide) (by decide) ?_
      refine ww_aload_n B dX2_takes_38 0 rfl ?_
      refine ww_iload_n B dX2_takes_39 1 rfl ?_
      obtain ⟨q_40, hq_40, h⟩ := og_b h
      refine ww_ciM B (k' := 0) (n' := 0) rfl rfl [0, 1, 3] [2, 4] (wr := [(a_hulls, .inl (cI, 48, .inl f_hulls)), (a_names, .inl (cI, 48, .inl f_names))]) (st := []) rfl rfl (by decide) (rr_V B (c_X2_takesDays l D cI cZ a_t a_days a_kinds b_signs a_hulls a_names f_days f_kinds x_t_awaited x_t_count x_t_parts x_t_gaps x_t_lastDay v1 hq_40) gX2_takes_X2_takesDays rfl rfl rfl (N := 1) rfl (by decide +kernel) ⟨Nat.le_of_ble_eq_true rfl, Nat.le_of_ble_eq_true rfl⟩ rfl dX2_takes_40 0 rfl rfl (Nat.le_of_ble_eq_true rfl) ⟨Nat.le_of_ble_eq_true rfl, Nat.le_of_ble_eq_true rfl⟩) (ws' := [(a_hulls, .inl (cI, 48, .inl f_hulls)), (a_names, .inl (cI, 48, .inl f_names)), (a_t, .inr (2, [.ref b_signs, .int q_40.2.2.2.1, .int x_t_count, .ref a_kinds, .ref a_hulls, .ref a_names, .ref a_days, .int q_40.2.2.2.2, .int x_t_gaps, .int x_t_lastDay])), (a_days, .inl (cI, 48, .inl q_40.2.1)), (a_kinds, .inl (cI, 48, .inl q_40.2.2.1))]) rfl ?_
      obtain ⟨z_43, h⟩ := og_y h
      exact ww_zret B hA hQ hr z_43 dX2_takes_43 (q_40.2.1, f_hulls, q_40.2.2.1, f_names, q_40.2.2.2.1, x_t_gaps, x_t_lastDay, q_40.2.2.2.2) [2, 3, 0, 4, 1] rfl (by decide) (og_p h)
    · replace h := og_f c_4_1 h
      refine ww_lookup B 44 dX2_takes_4 (off := 40) (by decide) ((lv_osw c_4_0 (by decide)).trans ((lv_osw c_4_1 (by decide)).trans (rfl))) (by decide) ?_
      refine ww_aload_n B dX2_takes_44 0 rfl ?_
      refine ww_iload_n B dX2_takes_45 1 rfl ?_
      obtain ⟨q_46, hq_46, h⟩ := og_b h
      refine ww_ciM B (k' := 0) (n' := 0) rfl rfl [0, 3, 4] [1, 2] (wr := [(a_days, .inl (cI, 48, .inl f_days)), (a_hulls, .inl (cI, 48, .inl f_hulls))]) (st := []) rfl rfl (by decide) (rr_V B (c_X2_takesName l D cI cZ a_t a_kinds a_names b_signs a_hulls a_days f_kinds f_names x_t_awaited x_t_count x_t_parts x_t_gaps x_t_lastDay v1 hq_46) gX2_takes_X2_takesName rfl rfl rfl (N := 1) rfl (by decide +kernel) ⟨Nat.le_of_ble_eq_true rfl, Nat.le_of_ble_eq_true rfl⟩ rfl dX2_takes_46 0 rfl rfl (Nat.le_of_ble_eq_true rfl) ⟨Nat.le_of_ble_eq_true rfl, Nat.le_of_ble_eq_true rfl⟩) (ws' := [(a_days, .inl (cI, 48, .inl f_days)), (a_hulls, .inl (cI, 48, .inl f_hulls)), (a_t, .inr (2, [.ref b_signs, .int q_46.2.2.2.1, .int x_t_count, .ref a_kinds, .ref a_hulls, .ref a_names, .ref a_days, .int q_46.2.2.2.2, .int x_t_gaps, .int x_t_lastDay])), (a_kinds, .inl (cI, 48, .inl q_46.2.1)), (a_names, .inl (cI, 48, .inl q_46.2.2.1))]) rfl ?_
      obtain ⟨z_49, h⟩ := og_y h
      exact ww_zret B hA hQ hr z_49 dX2_takes_49 (f_days, f_hulls, q_46.2.1, q_46.2.2.1, q_46.2.2.2.1, x_t_gaps, x_t_lastDay, q_46.2.2.2.2) [2, 0, 1, 3, 4] rfl (by decide) (og_p h)
noncomputable def m_X2_read_57 (f_signs : (Nat → Int32)) (x_t_count : Int32) (f_days : (Nat → Int32)) (f_hulls : (Nat → Int32)) (f_kinds : (Nat → Int32)) (f_names : (Nat → Int32)) (x_t_awaited : Int32) (x_t_gaps : Int32) (x_t_lastDay : Int32) (x_t_parts : Int32) : Option (Int32 × ((Nat → Int32) × (Nat → Int32) × (Nat → Int32) × (Nat → Int32) × Int32 × Int32 × Int32 × Int32)) := if x_t_awaited = 0 then (some ((-6), (f_days, f_hulls, f_kinds, f_names, x_t_awaited, x_t_gaps, x_t_lastDay, x_t_parts))) else (some (x_t_count, (f_days, f_hulls, f_kinds, f_names, x_t_awaited, x_t_gaps, x_t_lastDay, x_t_parts)))
noncomputable def m_X2_read_22b (k22 : Int32 → (Nat → Int32) → (Nat → Int32) → (Nat → Int32) → (Nat → Int32) → Int32 → Int32 → Int32 → Int32 → Option (Int32 × ((Nat → Int32) × (Nat → Int32) × (Nat → Int32) × (Nat → Int32) × Int32 × Int32 × Int32 × Int32))) (f_signs : (Nat → Int32)) (x_t_count : Int32) (v1 : Int32) (f_days : (Nat → Int32)) (f_hulls : (Nat → Int32)) (f_kinds : (Nat → Int32)) (f_names : (Nat → Int32)) (x_t_awaited : Int32) (x_t_gaps : Int32) (x_t_lastDay : Int32) (x_t_parts : Int32) : Option (Int32 × ((Nat → Int32) × (Nat → Int32) × (Nat → Int32) × (Nat → Int32) × Int32 × Int32 × Int32 × Int32)) := if x_t_count ≤ v1 then ((m_X2_read_57 f_signs x_t_count f_days f_hulls f_kinds f_names x_t_awaited x_t_gaps x_t_lastDay x_t_parts)) else (if 48 ≤ v1 then ((m_X2_read_57 f_signs x_t_count f_days f_hulls f_kinds f_names x_t_awaited x_t_gaps x_t_lastDay x_t_parts)) else (ogi v1 48 (ogb (m_X2_takes f_days f_hulls f_kinds f_names x_t_awaited x_t_gaps x_t_lastDay x_t_parts (f_signs (Int32.toNatClampNeg v1))) (fun q_43 => if q_43.1 = 0 then (some (v1, (q_43.2.1, q_43.2.2.1, q_43.2.2.2.1, q_43.2.2.2.2.1, q_43.2.2.2.2.2.1, q_43.2.2.2.2.2.2.1, q_43.2.2.2.2.2.2.2.1, q_43.2.2.2.2.2.2.2.2))) else (ogl (v1 + 1) (fun (v1_51 : Int32) => (k22 v1_51 q_43.2.1 q_43.2.2.1 q_43.2.2.2.1 q_43.2.2.2.2.1 q_43.2.2.2.2.2.1 q_43.2.2.2.2.2.2.1 q_43.2.2.2.2.2.2.2.1 q_43.2.2.2.2.2.2.2.2)))))))
noncomputable def m_X2_read_22 (f_signs : (Nat → Int32)) (x_t_count : Int32) (fuel : Nat) : Int32 → (Nat → Int32) → (Nat → Int32) → (Nat → Int32) → (Nat → Int32) → Int32 → Int32 → Int32 → Int32 → Option (Int32 × ((Nat → Int32) × (Nat → Int32) × (Nat → Int32) × (Nat → Int32) × Int32 × Int32 × Int32 × Int32)) := Nat.rec (fun _ _ _ _ _ _ _ _ _ => none) (fun _ k22 => m_X2_read_22b k22 f_signs x_t_count) fuel
noncomputable def m_X2_read (f_signs : (Nat → Int32)) (x_t_count : Int32) (f_days : (Nat → Int32)) (f_hulls : (Nat → Int32)) (f_kinds : (Nat → Int32)) (f_names : (Nat → Int32)) (x_t_awaited : Int32) (x_t_gaps : Int32) (x_t_lastDay : Int32) (x_t_parts : Int32) : Option (Int32 × ((Nat → Int32) × (Nat → Int32) × (Nat → Int32) × (Nat → Int32) × Int32 × Int32 × Int32 × Int32)) := (m_X2_read_22 f_signs x_t_count 1000000 0 f_days f_hulls f_kinds f_names 0 0 0 0)
set_option maxHeartbeats 4000000 in
set_option maxRecDepth 100000 in
theorem c_X2_read (l : Launch) (D : va_G) (cI cZ : ClassId) (a_t a_days a_hulls a_kinds a_names a_signs : Nat) (f_days : (Nat → Int32)) (f_hulls : (Nat → Int32)) (f_kinds : (Nat → Int32)) (f_names : (Nat → Int32)) (f_signs : (Nat → Int32)) (x_t_awaited : Int32) (x_t_count : Int32) (x_t_parts : Int32) (x_t_gaps : Int32) (x_t_lastDay : Int32) {res : (Int32 × ((Nat → Int32) × (Nat → Int32) × (Nat → Int32) × (Nat → Int32) × Int32 × Int32 × Int32 × Int32))} (h : m_X2_read f_signs x_t_count f_days f_hulls f_kinds f_names x_t_awaited x_t_gaps x_t_lastDay x_t_parts = some res) : CT l yX2_read wsX2_read ({ frames := 4, cells := 0, slots := 0, locals := 85 } : Room) D cI cZ [.ref a_t] [(a_t, .inr (2, [.ref a_signs, .int x_t_awaited, .int x_t_count, .ref a_kinds, .ref a_hulls, .ref a_names, .ref a_days, .int x_t_parts, .int x_t_gaps, .int x_t_lastDay])), (a_days, .inl (cI, 48, .inl f_days)), (a_hulls, .inl (cI, 48, .inl f_hulls)), (a_kinds, .inl (cI, 48, .inl f_kinds)), (a_names, .inl (cI, 48, .inl f_names)), (a_signs, .inl (cI, 48, .inl f_signs))] (QI D [(a_t, .inr (2, [.ref a_signs, .int x_t_awaited, .int x_t_count, .ref a_kinds, .ref a_hulls, .ref a_names, .ref a_days, .int x_t_parts, .int x_t_gaps, .int x_t_lastDay])), (a_days, .inl (cI, 48, .inl f_days)), (a_hulls, .inl (cI, 48, .inl f_hulls)), (a_kinds, .inl (cI, 48, .inl f_kinds)), (a_names, .inl (cI, 48, .inl f_names)), (a_signs, .inl (cI, 48, .inl f_signs))] (fun (r : Int32) (u : (Nat → Int32) × (Nat → Int32) × (Nat → Int32) × (Nat → Int32) × Int32 × Int32 × Int32 × Int32) => r = res.1 ∧ u = res.2) (fun (u : (Nat → Int32) × (Nat → Int32) × (Nat → Int32) × (Nat → Int32) × Int32 × Int32 × Int32 × Int32) => [(a_t, .inr (2, [.ref a_signs, .int u.2.2.2.2.1, .int x_t_count, .ref a_kinds, .ref a_hulls, .ref a_names, .ref a_days, .int u.2.2.2.2.2.2.2, .int u.2.2.2.2.2.1, .int u.2.2.2.2.2.2.1])), (a_days, .inl (cI, 48, .inl u.1)), (a_hulls, .inl (cI, 48, .inl u.2.1)), (a_kinds, .inl (cI, 48, .inl u.2.2.1)), (a_names, .inl (cI, 48, .inl u.2.2.2.1)), (a_signs, .inl (cI, 48, .inl f_signs))])) 0 0 := by
  have h : ((m_X2_read_22 f_signs x_t_count 1000000 0 f_days f_hulls f_kinds f_names 0 0 0 0) : Option (Int32 × ((Nat → Int32) × (Nat → Int32) × (Nat → Int32) × (Nat → Int32) × Int32 × Int32 × Int32 × Int32))) = some res := h
  refine ct_entry (cc := cX2_read) (nl := 2) (ret := (some .int)) (own := RX2) (lv0 := [(0, .ref a_t)]) (by decide) rfl rfl (Nat.le_of_ble_eq_true rfl) rfl ?_
  intro p e s m args below meth c A Q hA hQ hr hnm B
  have iX2 : ∀ w ∈ wsX20, w ∈ wsX2_read := by decide +kernel
  have cut_57 : ∀ (f_days : (Nat → Int32)) (f_hulls : (Nat → Int32)) (f_kinds : (Nat → Int32)) (f_names : (Nat → Int32)) (x_t_awaited : Int32) (x_t_gaps : Int32) (x_t_lastDay : Int32) (x_t_parts : Int32), m_X2_read_57 f_signs x_t_count f_days f_hulls f_kinds f_names x_t_awaited x_t_gaps x_t_lastDay x_t_parts = some res → WW p l e (headSpec wsX2_read ({ frames := 4, cells := 0, slots := 0, locals := 85 } : Room)).room s m args below meth c D A 2 0 0 Q [(a_t, .inr (2, [.ref a_signs, .int x_t_awaited, .int x_t_count, .ref a_kinds, .ref a_hulls, .ref a_names, .ref a_days, .int x_t_parts, .int x_t_gaps, .int x_t_lastDay])), (a_days, .inl (cI, 48, .inl f_days)), (a_hulls, .inl (cI, 48, .inl f_hulls)), (a_kinds, .inl (cI, 48, .inl f_kinds)), (a_names, .inl (cI, 48, .inl f_names)), (a_signs, .inl (cI, 48, .inl f_signs))] [(0, .ref a_t)] [] 57 := by
    intro f_days f_hulls f_kinds f_names x_t_awaited x_t_gaps x_t_lastDay x_t_parts h
    replace h : (if x_t_awaited = 0 then (some ((-6), (f_days, f_hulls, f_kinds, f_names, x_t_awaited, x_t_gaps, x_t_lastDay, x_t_parts))) else (some (x_t_count, (f_days, f_hulls, f_kinds, f_names, x_t_awaited, x_t_gaps, x_t_lastDay, x_t_parts))) : Option (Int32 × ((Nat → Int32) × (Nat → Int32) × (Nat → Int32) × (Nat → Int32) × Int32 × Int32 × Int32 × Int32))) = some res := h
    refine ww_aload_n B dX2_read_57 0 rfl ?_
    refine ww_get (ci := 2) (T := TX2) (C := RX2) (N := 10) B iX2 0 rfl rfl 1 (by decide) (by decide +kernel) rfl rfl dX2_read_58 ?_
    refine ww_if_ne B 69 dX2_read_61 (by decide) (fun c_61 => ?_) (fun c_61 => ?_)
    · replace h := og_f c_61 h
      refine ww_aload_n B dX2_read_69 0 rfl ?_
      refine ww_get (ci := 2) (T := TX2) (C := RX2) (N := 10) B iX2 0 rfl rfl 2 (by decide) (by decide +kernel) rfl rfl dX2_read_70 ?_
      exact ww_iret B hA hQ hr dX2_read_73 (f_days, f_hulls, f_kinds, f_names, x_t_awaited, x_t_gaps, x_t_lastDay, x_t_parts) [0, 1, 2, 3, 4, 5] rfl (by decide) (og_p h)
    · replace h := og_t c_61 h
      refine ww_bipush B dX2_read_64 (v := (-6)) (by decide) ?_
      refine ww_goto B 73 dX2_read_66 (by decide) ?_
      exact ww_iret B hA hQ hr dX2_read_73 (f_days, f_hulls, f_kinds, f_names, x_t_awaited, x_t_gaps, x_t_lastDay, x_t_parts) [0, 1, 2, 3, 4, 5] rfl (by decide) (og_p h)
  have cut_22 : ∀ (fuel : Nat) (v1 : Int32) (f_days : (Nat → Int32)) (f_hulls : (Nat → Int32)) (f_kinds : (Nat → Int32)) (f_names : (Nat → Int32)) (x_t_awaited : Int32) (x_t_gaps : Int32) (x_t_lastDay : Int32) (x_t_parts : Int32), m_X2_read_22 f_signs x_t_count fuel v1 f_days f_hulls f_kinds f_names x_t_awaited x_t_gaps x_t_lastDay x_t_parts = some res → WW p l e (headSpec wsX2_read ({ frames := 4, cells := 0, slots := 0, locals := 85 } : Room)).room s m args below meth c D A 2 0 0 Q [(a_t, .inr (2, [.ref a_signs, .int x_t_awaited, .int x_t_count, .ref a_kinds, .ref a_hulls, .ref a_names, .ref a_days, .int x_t_parts, .int x_t_gaps, .int x_t_lastDay])), (a_days, .inl (cI, 48, .inl f_days)), (a_hulls, .inl (cI, 48, .inl f_hulls)), (a_kinds, .inl (cI, 48, .inl f_kinds)), (a_names, .inl (cI, 48, .inl f_names)), (a_signs, .inl (cI, 48, .inl f_signs))] [(0, .ref a_t), (1, .int v1)] [] 22 := by
    intro fuel_22
    induction fuel_22 with
    | zero => intro v1 f_days f_hulls f_kinds f_names x_t_awaited x_t_gaps x_t_lastDay x_t_parts h; exact og_0 h
    | succ fuel_22 ih_22 =>
      intro v1 f_days f_hulls f_kinds f_names x_t_awaited x_t_gaps x_t_lastDay x_t_parts h
      replace h : (if x_t_count ≤ v1 then ((m_X2_read_57 f_signs x_t_count f_days f_hulls f_kinds f_names x_t_awaited x_t_gaps x_t_lastDay x_t_parts)) else (if 48 ≤ v1 then ((m_X2_read_57 f_signs x_t_count f_days f_hulls f_kinds f_names x_t_awaited x_t_gaps x_t_lastDay x_t_parts)) else (ogi v1 48 (ogb (m_X2_takes f_days f_hulls f_kinds f_names x_t_awaited x_t_gaps x_t_lastDay x_t_parts (f_signs (Int32.toNatClampNeg v1))) (fun q_43 => if q_43.1 = 0 then (some (v1, (q_43.2.1, q_43.2.2.1, q_43.2.2.2.1, q_43.2.2.2.2.1, q_43.2.2.2.2.2.1, q_43.2.2.2.2.2.2.1, q_43.2.2.2.2.2.2.2.1, q_43.2.2.2.2.2.2.2.2))) else (ogl (v1 + 1) (fun (v1_51 : Int32) => ((m_X2_read_22 f_signs x_t_count fuel_22) v1_51 q_43.2.1 q_43.2.2.1 q_43.2.2.2.1 q_43.2.2.2.2.1 q_43.2.2.2.2.2.1 q_43.2.2.2.2.2.2.1 q_43.2.2.2.2.2.2.2.1 q_43.2.2.2.2.2.2.2.2))))))) : Option (Int32 × ((Nat → Int32) × (Nat → Int32) × (Nat → Int32) × (Nat → Int32) × Int32 × Int32 × Int32 × Int32))) = some res := h
      refine ww_iload_n B dX2_read_22 1 rfl ?_
      refine ww_aload_n B dX2_read_23 0 rfl ?_
      refine ww_get (ci := 2) (T := TX2) (C := RX2) (N := 10) B iX2 0 rfl rfl 2 (by decide) (by decide +kernel) rfl rfl dX2_read_24 ?_
      refine ww_icmp_ge B 57 dX2_read_27 (by decide) (fun c_27 => ?_) (fun c_27 => ?_)
      · replace h := og_t c_27 h
        refine ww_lsel (lv' := [(0, .ref a_t)]) [0] rfl ?_
        exact cut_57 _ _ _ _ _ _ _ _ h
      · replace h := og_f c_27 h
        refine ww_iload_n B dX2_read_30 1 rfl ?_
        refine ww_bipush B dX2_read_31 (v := 48) (by decide) ?_
        refine ww_icmp_ge B 57 dX2_read_33 (by decide) (fun c_33 => ?_) (fun c_33 => ?_)
        · replace h := og_t c_33 h
          refine ww_lsel (lv' := [(0, .ref a_t)]) [0] rfl ?_
          exact cut_57 _ _ _ _ _ _ _ _ h
        · replace h := og_f c_33 h
          refine ww_aload_n B dX2_read_36 0 rfl ?_
          refine ww_aload_n B dX2_read_37 0 rfl ?_
          refine ww_get (ci := 2) (T := TX2) (C := RX2) (N := 10) B iX2 0 rfl rfl 0 (by decide) (by decide +kernel) rfl rfl dX2_read_38 ?_
          refine ww_iload_n B dX2_read_41 1 rfl ?_
          obtain ⟨i_42, h⟩ := og_i h
          refine ww_iald B 5 rfl i_42 dX2_read_42 ?_
          obtain ⟨q_43, hq_43, h⟩ := og_b h
          refine ww_ciM B (k' := 0) (n' := 0) rfl rfl [0, 1, 2, 3, 4] [5] (wr := [(a_signs, .inl (cI, 48, .inl f_signs))]) (st := []) rfl rfl (by decide) (rr_V B (c_X2_takes l D cI cZ a_t a_days a_hulls a_kinds a_names a_signs f_days f_hulls f_kinds f_names x_t_awaited x_t_count x_t_parts x_t_gaps x_t_lastDay (f_signs (Int32.toNatClampNeg v1)) hq_43) gX2_read_X2_takes rfl rfl rfl (N := 1) rfl (by decide +kernel) ⟨Nat.le_of_ble_eq_true rfl, Nat.le_of_ble_eq_true rfl⟩ rfl dX2_read_43 0 rfl rfl (Nat.le_of_ble_eq_true rfl) ⟨Nat.le_of_ble_eq_true rfl, Nat.le_of_ble_eq_true rfl⟩) (ws' := [(a_signs, .inl (cI, 48, .inl f_signs)), (a_t, .inr (2, [.ref a_signs, .int q_43.2.2.2.2.2.1, .int x_t_count, .ref a_kinds, .ref a_hulls, .ref a_names, .ref a_days, .int q_43.2.2.2.2.2.2.2.2, .int q_43.2.2.2.2.2.2.1, .int q_43.2.2.2.2.2.2.2.1])), (a_days, .inl (cI, 48, .inl q_43.2.1)), (a_hulls, .inl (cI, 48, .inl q_43.2.2.1)), (a_kinds, .inl (cI, 48, .inl q_43.2.2.2.1)), (a_names, .inl (cI, 48, .inl q_43.2.2.2.2.1))]) rfl ?_
          refine ww_if_ne B 51 dX2_read_46 (by decide) (fun c_46 => ?_) (fun c_46 => ?_)
          · replace h := og_f c_46 h
            obtain ⟨v1_51, ev1_51⟩ : ∃ y : Int32, y = (v1 + 1) := ⟨_, rfl⟩
            refine ww_iinc B dX2_read_51 1 rfl (v := v1_51) (by rw [ev1_51]; rfl) (by decide) (lv' := [(1, .int v1_51), (0, .ref a_t)]) rfl ?_
            replace h := og_l ev1_51 h
            refine ww_goto B 22 dX2_read_54 (by decide) ?_
            refine ww_sub (ws' := [(a_t, .inr (2, [.ref a_signs, .int q_43.2.2.2.2.2.1, .int x_t_count, .ref a_kinds, .ref a_hulls, .ref a_names, .ref a_days, .int q_43.2.2.2.2.2.2.2.2, .int q_43.2.2.2.2.2.2.1, .int q_43.2.2.2.2.2.2.2.1])), (a_days, .inl (cI, 48, .inl q_43.2.1)), (a_hulls, .inl (cI, 48, .inl q_43.2.2.1)), (a_kinds, .inl (cI, 48, .inl q_43.2.2.2.1)), (a_names, .inl (cI, 48, .inl q_43.2.2.2.2.1)), (a_signs, .inl (cI, 48, .inl f_signs))]) [1, 2, 3, 4, 5, 0] rfl (by decide) ?_
            refine ww_lsel (lv' := [(0, .ref a_t), (1, .int v1_51)]) [1, 0] rfl ?_
            exact ih_22 _ _ _ _ _ _ _ _ _ h
          · replace h := og_t c_46 h
            refine ww_iload_n B dX2_read_49 1 rfl ?_
            exact ww_iret B hA hQ hr dX2_read_50 (q_43.2.1, q_43.2.2.1, q_43.2.2.2.1, q_43.2.2.2.2.1, q_43.2.2.2.2.2.1, q_43.2.2.2.2.2.2.1, q_43.2.2.2.2.2.2.2.1, q_43.2.2.2.2.2.2.2.2) [1, 2, 3, 4, 5, 0] rfl (by decide) (og_p h)
  refine ww_aload_n B dX2_read_0 0 rfl ?_
  refine ww_iconst B dX2_read_1 (v := 0) (by decide) ?_
  refine ww_put (ci := 2) (T := TX2) (C := RX2) (N := 10) (ty := .int) B iX2 tyX2 tyX2_ok nmX2 0 rfl rfl 7 (by decide) (by decide +kernel) rfl rfl (by decide +kernel) rfl rfl (Nat.le_of_ble_eq_true rfl) dX2_read_2 (ws' := [(a_t, .inr (2, [.ref a_signs, .int x_t_awaited, .int x_t_count, .ref a_kinds, .ref a_hulls, .ref a_names, .ref a_days, .int 0, .int x_t_gaps, .int x_t_lastDay])), (a_days, .inl (cI, 48, .inl f_days)), (a_hulls, .inl (cI, 48, .inl f_hulls)), (a_kinds, .inl (cI, 48, .inl f_kinds)), (a_names, .inl (cI, 48, .inl f_names)), (a_signs, .inl (cI, 48, .inl f_signs))]) rfl ?_
  refine ww_aload_n B dX2_read_5 0 rfl ?_
  refine ww_iconst B dX2_read_6 (v := 0) (by decide) ?_
  refine ww_put (ci := 2) (T := TX2) (C := RX2) (N := 10) (ty := .int) B iX2 tyX2 tyX2_ok nmX2 0 rfl rfl 8 (by decide) (by decide +kernel) rfl rfl (by decide +kernel) rfl rfl (Nat.le_of_ble_eq_true rfl) dX2_read_7 (ws' := [(a_t, .inr (2, [.ref a_signs, .int x_t_awaited, .int x_t_count, .ref a_kinds, .ref a_hulls, .ref a_names, .ref a_days, .int 0, .int 0, .int x_t_lastDay])), (a_days, .inl (cI, 48, .inl f_days)), (a_hulls, .inl (cI, 48, .inl f_hulls)), (a_kinds, .inl (cI, 48, .inl f_kinds)), (a_names, .inl (cI, 48, .inl f_names)), (a_signs, .inl (cI, 48, .inl f_signs))]) rfl ?_
  refine ww_aload_n B dX2_read_10 0 rfl ?_
  refine ww_iconst B dX2_read_11 (v := 0) (by decide) ?_
  refine ww_put (ci := 2) (T := TX2) (C := RX2) (N := 10) (ty := .int) B iX2 tyX2 tyX2_ok nmX2 0 rfl rfl 9 (by decide) (by decide +kernel) rfl rfl (by decide +kernel) rfl rfl (Nat.le_of_ble_eq_true rfl) dX2_read_12 (ws' := [(a_t, .inr (2, [.ref a_signs, .int x_t_awaited, .int x_t_count, .ref a_kinds, .ref a_hulls, .ref a_names, .ref a_days, .int 0, .int 0, .int 0])), (a_days, .inl (cI, 48, .inl f_days)), (a_hulls, .inl (cI, 48, .inl f_hulls)), (a_kinds, .inl (cI, 48, .inl f_kinds)), (a_names, .inl (cI, 48, .inl f_names)), (a_signs, .inl (cI, 48, .inl f_signs))]) rfl ?_
  refine ww_aload_n B dX2_read_15 0 rfl ?_
  refine ww_iconst B dX2_read_16 (v := 0) (by decide) ?_
  refine ww_put (ci := 2) (T := TX2) (C := RX2) (N := 10) (ty := .int) B iX2 tyX2 tyX2_ok nmX2 0 rfl rfl 1 (by decide) (by decide +kernel) rfl rfl (by decide +kernel) rfl rfl (Nat.le_of_ble_eq_true rfl) dX2_read_17 (ws' := [(a_t, .inr (2, [.ref a_signs, .int 0, .int x_t_count, .ref a_kinds, .ref a_hulls, .ref a_names, .ref a_days, .int 0, .int 0, .int 0])), (a_days, .inl (cI, 48, .inl f_days)), (a_hulls, .inl (cI, 48, .inl f_hulls)), (a_kinds, .inl (cI, 48, .inl f_kinds)), (a_names, .inl (cI, 48, .inl f_names)), (a_signs, .inl (cI, 48, .inl f_signs))]) rfl ?_
  refine ww_iconst B dX2_read_20 (v := 0) (by decide) ?_
  refine ww_istore_n B dX2_read_21 (lv' := [(1, .int 0), (0, .ref a_t)]) (by decide) rfl ?_
  refine ww_lsel (lv' := [(0, .ref a_t), (1, .int 0)]) [1, 0] rfl ?_
  exact cut_22 _ _ _ _ _ _ _ _ _ _ h
