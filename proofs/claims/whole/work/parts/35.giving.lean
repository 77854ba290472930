noncomputable def m_X1_namePrefers (f_port_rank : (Nat → Int32)) (v1 : Int32) (v2 : Int32) (v3 : Int32) : Option Int32 := if v3 = (-6) then (some 1) else (ogb (m_X3_placeOf f_port_rank v1 v2) (fun q_12 => ogb (m_X3_placeOf f_port_rank v1 v3) (fun q_21 => if q_21 ≤ q_12 then (some 0) else (some 1))))
set_option maxHeartbeats 4000000 in
set_option maxRecDepth 100000 in
theorem c_X1_namePrefers (l : Launch) (D : va_G) (cI cZ : ClassId) (a_t a_port a_port_rank b_choice b_left b_nameOf b_hullOf b_best b_port_may b_port_voyage b_port_luck b_port_worth : Nat) (f_port_rank : (Nat → Int32)) (v1 : Int32) (v2 : Int32) (v3 : Int32) {res : Int32} (h : m_X1_namePrefers f_port_rank v1 v2 v3 = some res) : CT l yX1_namePrefers wsX1_namePrefers ({ frames := 2, cells := 0, slots := 0, locals := 45 } : Room) D cI cZ [.ref a_t, .int v1, .int v2, .int v3] [(a_t, .inr (1, [.ref a_port, .ref b_choice, .ref b_left, .ref b_nameOf, .ref b_hullOf, .ref b_best])), (a_port, .inr (3, [.ref b_port_may, .ref b_port_voyage, .ref b_port_luck, .ref a_port_rank, .ref b_port_worth])), (a_port_rank, .inl (cI, 5, .inl f_port_rank))] (QI D [(a_t, .inr (1, [.ref a_port, .ref b_choice, .ref b_left, .ref b_nameOf, .ref b_hullOf, .ref b_best])), (a_port, .inr (3, [.ref b_port_may, .ref b_port_voyage, .ref b_port_luck, .ref a_port_rank, .ref b_port_worth])), (a_port_rank, .inl (cI, 5, .inl f_port_rank))] (fun (r : Int32) (_ : Unit) => r = res) (fun (u : Unit) => [(a_t, .inr (1, [.ref a_port, .ref b_choice, .ref b_left, .ref b_nameOf, .ref b_hullOf, .ref b_best])), (a_port, .inr (3, [.ref b_port_may, .ref b_port_voyage, .ref b_port_luck, .ref a_port_rank, .ref b_port_worth])), (a_port_rank, .inl (cI, 5, .inl f_port_rank))])) 0 0 := by
  have h : (if v3 = (-6) then (some 1) else (ogb (m_X3_placeOf f_port_rank v1 v2) (fun q_12 => ogb (m_X3_placeOf f_port_rank v1 v3) (fun q_21 => if q_21 ≤ q_12 then (some 0) else (some 1)))) : Option Int32) = some res := h
  refine ct_entry (cc := cX1_namePrefers) (nl := 4) (ret := (some .boolean)) (own := RX1) (lv0 := [(0, .ref a_t), (1, .int v1), (2, .int v2), (3, .int v3)]) (by decide) rfl rfl (Nat.le_of_ble_eq_true rfl) rfl ?_
  intro p e s m args below meth c A Q hA hQ hr hnm B
  have iX1 : ∀ w ∈ wsX10, w ∈ wsX1_namePrefers := by decide +kernel
  refine ww_iload_n B dX1_namePrefers_0 3 rfl ?_
  refine ww_bipush B dX1_namePrefers_1 (v := (-6)) (by decide) ?_
  refine ww_icmp_eq B 27 dX1_namePrefers_3 (by decide) (fun c_3 => ?_) (fun c_3 => ?_)
  · replace h := og_t c_3 h
    refine ww_iconst B dX1_namePrefers_27 (v := 1) (by decide) ?_
    refine ww_goto B 32 dX1_namePrefers_28 (by decide) ?_
    exact ww_zret B hA hQ hr (Or.inr rfl) dX1_namePrefers_32 () [0, 1, 2] rfl (by decide) (og_s h).symm
  · replace h := og_f c_3 h
    refine ww_aload_n B dX1_namePrefers_6 0 rfl ?_
    refine ww_get (ci := 1) (T := TX1) (C := RX1) (N := 6) B iX1 0 rfl rfl 0 (by decide) (by decide +kernel) rfl rfl dX1_namePrefers_7 ?_
    refine ww_iload_n B dX1_namePrefers_10 1 rfl ?_
    refine ww_iload_n B dX1_namePrefers_11 2 rfl ?_
    obtain ⟨q_12, hq_12, h⟩ := og_b h
    refine ww_ci0 B (k' := 0) (n' := 0) rfl rfl [1, 2] [0] (wr := [(a_t, .inr (1, [.ref a_port, .ref b_choice, .ref b_left, .ref b_nameOf, .ref b_hullOf, .ref b_best]))]) (st := []) rfl rfl (by decide) (rr_V B (c_X3_placeOf l D cI cZ a_port a_port_rank b_port_may b_port_voyage b_port_luck b_port_worth f_port_rank v1 v2 hq_12) gX1_namePrefers_X3_placeOf rfl rfl rfl (N := 2) rfl (by decide +kernel) ⟨Nat.le_of_ble_eq_true rfl, Nat.le_of_ble_eq_true rfl⟩ rfl dX1_namePrefers_12 0 rfl rfl (Nat.le_of_ble_eq_true rfl) ⟨Nat.le_of_ble_eq_true rfl, Nat.le_of_ble_eq_true rfl⟩) (ws' := [(a_t, .inr (1, [.ref a_port, .ref b_choice, .ref b_left, .ref b_nameOf, .ref b_hullOf, .ref b_best])), (a_port, .inr (3, [.ref b_port_may, .ref b_port_voyage, .ref b_port_luck, .ref a_port_rank, .ref b_port_worth])), (a_port_rank, .inl (cI, 5, .inl f_port_rank))]) rfl ?_
    refine ww_aload_n B dX1_namePrefers_15 0 rfl ?_
    refine ww_get (ci := 1) (T := TX1) (C := RX1) (N := 6) B iX1 0 rfl rfl 0 (by decide) (by decide +kernel) rfl rfl dX1_namePrefers_16 ?_
    refine ww_iload_n B dX1_namePrefers_19 1 rfl ?_
    refine ww_iload_n B dX1_namePrefers_20 3 rfl ?_
    obtain ⟨q_21, hq_21, h⟩ := og_b h
    refine ww_ci0 B (k' := 0) (n' := 0) rfl rfl [1, 2] [0] (wr := [(a_t, .inr (1, [.ref a_port, .ref b_choice, .ref b_left, .ref b_nameOf, .ref b_hullOf, .ref b_best]))]) (st := [.int q_12]) rfl rfl (by decide) (rr_V B (c_X3_placeOf l D cI cZ a_port a_port_rank b_port_may b_port_voyage b_port_luck b_port_worth f_port_rank v1 v3 hq_21) gX1_namePrefers_X3_placeOf rfl rfl rfl (N := 2) rfl (by decide +kernel) ⟨Nat.le_of_ble_eq_true rfl, Nat.le_of_ble_eq_true rfl⟩ rfl dX1_namePrefers_21 0 rfl rfl (Nat.le_of_ble_eq_true rfl) ⟨Nat.le_of_ble_eq_true rfl, Nat.le_of_ble_eq_true rfl⟩) (ws' := [(a_t, .inr (1, [.ref a_port, .ref b_choice, .ref b_left, .ref b_nameOf, .ref b_hullOf, .ref b_best])), (a_port, .inr (3, [.ref b_port_may, .ref b_port_voyage, .ref b_port_luck, .ref a_port_rank, .ref b_port_worth])), (a_port_rank, .inl (cI, 5, .inl f_port_rank))]) rfl ?_
    refine ww_icmp_ge B 31 dX1_namePrefers_24 (by decide) (fun c_24 => ?_) (fun c_24 => ?_)
    · replace h := og_t c_24 h
      refine ww_iconst B dX1_namePrefers_31 (v := 0) (by decide) ?_
      exact ww_zret B hA hQ hr (Or.inl rfl) dX1_namePrefers_32 () [0, 1, 2] rfl (by decide) (og_s h).symm
    · replace h := og_f c_24 h
      refine ww_iconst B dX1_namePrefers_27 (v := 1) (by decide) ?_
      refine ww_goto B 32 dX1_namePrefers_28 (by decide) ?_
      exact ww_zret B hA hQ hr (Or.inr rfl) dX1_namePrefers_32 () [0, 1, 2] rfl (by decide) (og_s h).symm
noncomputable def m_X1_give (f_hullOf : (Nat → Int32)) (f_nameOf : (Nat → Int32)) (v1 : Int32) (v2 : Int32) : Option ((Nat → Int32) × (Nat → Int32)) := ogb (m_X7_put 6 f_nameOf v1 v2) (fun q_6 => ogb (m_X7_put 5 f_hullOf v2 v1) (fun q_15 => some (q_15, q_6)))
set_option maxHeartbeats 4000000 in
set_option maxRecDepth 100000 in
theorem c_X1_give (l : Launch) (D : va_G) (cI cZ : ClassId) (a_t a_hullOf a_nameOf b_port b_choice b_left b_best : Nat) (f_hullOf : (Nat → Int32)) (f_nameOf : (Nat → Int32)) (v1 : Int32) (v2 : Int32) {res : ((Nat → Int32) × (Nat → Int32))} (h : m_X1_give f_hullOf f_nameOf v1 v2 = some res) : CT l yX1_give wsX1_give ({ frames := 1, cells := 0, slots := 0, locals := 22 } : Room) D cI cZ [.ref a_t, .int v1, .int v2] [(a_t, .inr (1, [.ref b_port, .ref b_choice, .ref b_left, .ref a_nameOf, .ref a_hullOf, .ref b_best])), (a_hullOf, .inl (cI, 5, .inl f_hullOf)), (a_nameOf, .inl (cI, 6, .inl f_nameOf))] (QV D [(a_t, .inr (1, [.ref b_port, .ref b_choice, .ref b_left, .ref a_nameOf, .ref a_hullOf, .ref b_best])), (a_hullOf, .inl (cI, 5, .inl f_hullOf)), (a_nameOf, .inl (cI, 6, .inl f_nameOf))] (fun (u : (Nat → Int32) × (Nat → Int32)) => u = res) (fun (u : (Nat → Int32) × (Nat → Int32)) => [(a_t, .inr (1, [.ref b_port, .ref b_choice, .ref b_left, .ref a_nameOf, .ref a_hullOf, .ref b_best])), (a_hullOf, .inl (cI, 5, .inl u.1)), (a_nameOf, .inl (cI, 6, .inl u.2))])) 0 0 := by
  have h : (ogb (m_X7_put 6 f_nameOf v1 v2) (fun q_6 => ogb (m_X7_put 5 f_hullOf v2 v1) (fun q_15 => some (q_15, q_6))) : Option ((Nat → Int32) × (Nat → Int32))) = some res := h
  refine ct_entry (cc := cX1_give) (nl := 3) (ret := none) (own := RX1) (lv0 := [(0, .ref a_t), (1, .int v1), (2, .int v2)]) (by decide) rfl rfl (Nat.le_of_ble_eq_true rfl) rfl ?_
  intro p e s m args below meth c A Q hA hQ hr hnm B
  have iX1 : ∀ w ∈ wsX10, w ∈ wsX1_give := by decide +kernel
  refine ww_aload_n B dX1_give_0 0 rfl ?_
  refine ww_get (ci := 1) (T := TX1) (C := RX1) (N := 6) B iX1 0 rfl rfl 3 (by decide) (by decide +kernel) rfl rfl dX1_give_1 ?_
  refine ww_iload_n B dX1_give_4 1 rfl ?_
  refine ww_iload_n B dX1_give_5 2 rfl ?_
  obtain ⟨q_6, hq_6, h⟩ := og_b h
  refine ww_cvM B (k' := 0) (n' := 0) rfl rfl [2] [0, 1] (wr := [(a_t, .inr (1, [.ref b_port, .ref b_choice, .ref b_left, .ref a_nameOf, .ref a_hullOf, .ref b_best])), (a_hullOf, .inl (cI, 5, .inl f_hullOf))]) (st := []) rfl rfl (by decide) (rr_SN B (c_X7_put l D cI cZ a_nameOf 6 f_nameOf v1 v2 hq_6) gX1_give_X7_put_n48 rfl rfl rfl (by decide +kernel) (by decide +kernel) (by decide +kernel) (N := 3) rfl (by decide +kernel) ⟨Nat.le_of_ble_eq_true rfl, Nat.le_of_ble_eq_true rfl⟩ rfl dX1_give_6 (Nat.le_of_ble_eq_true rfl) ⟨Nat.le_of_ble_eq_true rfl, Nat.le_of_ble_eq_true rfl⟩) (ws' := [(a_t, .inr (1, [.ref b_port, .ref b_choice, .ref b_left, .ref a_nameOf, .ref a_hullOf, .ref b_best])), (a_hullOf, .inl (cI, 5, .inl f_hullOf)), (a_nameOf, .inl (cI, 6, .inl q_6))]) rfl ?_
  refine ww_aload_n B dX1_give_9 0 rfl ?_
  refine ww_get (ci := 1) (T := TX1) (C := RX1) (N := 6) B iX1 0 rfl rfl 4 (by decide) (by decide +kernel) rfl rfl dX1_give_10 ?_
  refine ww_iload_n B dX1_give_13 2 rfl ?_
  refine ww_iload_n B dX1_give_14 1 rfl ?_
  obtain ⟨q_15, hq_15, h⟩ := og_b h
  refine ww_cvM B (k' := 0) (n' := 0) rfl rfl [1] [0, 2] (wr := [(a_t, .inr (1, [.ref b_port, .ref b_choice, .ref b_left, .ref a_nameOf, .ref a_hullOf, .ref b_best])), (a_nameOf, .inl (cI, 6, .inl q_6))]) (st := []) rfl rfl (by decide) (rr_SN B (c_X7_put l D cI cZ a_hullOf 5 f_hullOf v2 v1 hq_15) gX1_give_X7_put_n48 rfl rfl rfl (by decide +kernel) (by decide +kernel) (by decide +kernel) (N := 3) rfl (by decide +kernel) ⟨Nat.le_of_ble_eq_true rfl, Nat.le_of_ble_eq_true rfl⟩ rfl dX1_give_15 (Nat.le_of_ble_eq_true rfl) ⟨Nat.le_of_ble_eq_true rfl, Nat.le_of_ble_eq_true rfl⟩) (ws' := [(a_t, .inr (1, [.ref b_port, .ref b_choice, .ref b_left, .ref a_nameOf, .ref a_hullOf, .ref b_best])), (a_nameOf, .inl (cI, 6, .inl q_6)), (a_hullOf, .inl (cI, 5, .inl q_15))]) rfl ?_
  exact ww_vret B hA hQ hr dX1_give_18 (q_15, q_6) [0, 2, 1] rfl (by decide) (og_s h).symm
noncomputable def m_X1_askFor_58 (f_port_rank : (Nat → Int32)) (v1 : Int32) (v2 : Int32) (f_hullOf : (Nat → Int32)) (f_left : (Nat → Int32)) (f_nameOf : (Nat → Int32)) : Option ((Nat → Int32) × (Nat → Int32) × (Nat → Int32)) := ogb (m_X1_give f_hullOf f_nameOf v1 v2) (fun q_61 => some (q_61.1, f_left, q_61.2))
noncomputable def m_X1_askFor (f_port_rank : (Nat → Int32)) (f_hullOf : (Nat → Int32)) (f_left : (Nat → Int32)) (f_nameOf : (Nat → Int32)) (v1 : Int32) (v2 : Int32) : Option ((Nat → Int32) × (Nat → Int32) × (Nat → Int32)) := ogb (m_X7_at 6 f_left v1) (fun q_10 => ogb (m_X7_put 6 f_left v1 (q_10 &&& ((((1 : Int32) <<< ((v2 : Int32) &&& 31)) : Int32) ^^^ ((-1) : Int32)))) (fun q_19 => ogb (m_X7_at 5 f_hullOf v2) (fun q_27 => ogb (m_X1_namePrefers f_port_rank v2 v1 q_27) (fun q_35 => if q_35 = 0 then (some (f_hullOf, q_19, f_nameOf)) else (if q_27 = (-6) then ((m_X1_askFor_58 f_port_rank v1 v2 f_hullOf q_19 f_nameOf)) else (ogb (m_X7_put 6 f_nameOf q_27 (-6)) (fun q_55 => (m_X1_askFor_58 f_port_rank v1 v2 f_hullOf q_19 q_55))))))))
set_option maxHeartbeats 4000000 in
set_option maxRecDepth 100000 in
theorem c_X1_askFor (l : Launch) (D : va_G) (cI cZ : ClassId) (a_t a_port a_hullOf a_left a_nameOf a_port_rank b_choice b_best b_port_may b_port_voyage b_port_luck b_port_worth : Nat) (f_hullOf : (Nat → Int32)) (f_left : (Nat → Int32)) (f_nameOf : (Nat → Int32)) (f_port_rank : (Nat → Int32)) (v1 : Int32) (v2 : Int32) {res : ((Nat → Int32) × (Nat → Int32) × (Nat → Int32))} (h : m_X1_askFor f_port_rank f_hullOf f_left f_nameOf v1 v2 = some res) : CT l yX1_askFor wsX1_askFor ({ frames := 3, cells := 0, slots := 0, locals := 68 } : Room) D cI cZ [.ref a_t, .int v1, .int v2] [(a_t, .inr (1, [.ref a_port, .ref b_choice, .ref a_left, .ref a_nameOf, .ref a_hullOf, .ref b_best])), (a_port, .inr (3, [.ref b_port_may, .ref b_port_voyage, .ref b_port_luck, .ref a_port_rank, .ref b_port_worth])), (a_hullOf, .inl (cI, 5, .inl f_hullOf)), (a_left, .inl (cI, 6, .inl f_left)), (a_nameOf, .inl (cI, 6, .inl f_nameOf)), (a_port_rank, .inl (cI, 5, .inl f_port_rank))] (QV D [(a_t, .inr (1, [.ref a_port, .ref b_choice, .ref a_left, .ref a_nameOf, .ref a_hullOf, .ref b_best])), (a_port, .inr (3, [.ref b_port_may, .ref b_port_voyage, .ref b_port_luck, .ref a_port_rank, .ref b_port_worth])), (a_hullOf, .inl (cI, 5, .inl f_hullOf)), (a_left, .inl (cI, 6, .inl f_left)), (a_nameOf, .inl (cI, 6, .inl f_nameOf)), (a_port_rank, .inl (cI, 5, .inl f_port_rank))] (fun (u : (Nat → Int32) × (Nat → Int32) × (Nat → Int32)) => u = res) (fun (u : (Nat → Int32) × (Nat → Int32) × (Nat → Int32)) => [(a_t, .inr (1, [.ref a_port, .ref b_choice, .ref a_left, .ref a_nameOf, .ref a_hullOf, .ref b_best])), (a_port, .inr (3, [.ref b_port_may, .ref b_port_voyage, .ref b_port_luck, .ref a_port_rank, .ref b_port_worth])), (a_hullOf, .inl (cI, 5, .inl u.1)), (a_left, .inl (cI, 6, .inl u.2.1)), (a_nameOf, .inl (cI, 6, .inl u.2.2)), (a_port_rank, .inl (cI, 5, .inl f_port_rank))])) 0 0 := by
  have h : (ogb (m_X7_at 6 f_left v1) (fun q_10 => ogb (m_X7_put 6 f_left v1 (q_10 &&& ((((1 : Int32) <<< ((v2 : Int32) &&& 31)) : Int32) ^^^ ((-1) : Int32)))) (fun q_19 => ogb (m_X7_at 5 f_hullOf v2) (fun q_27 => ogb (m_X1_namePrefers f_port_rank v2 v1 q_27) (fun q_35 => if q_35 = 0 then (some (f_hullOf, q_19, f_nameOf)) else (if q_27 = (-6) then ((m_X1_askFor_58 f_port_rank v1 v2 f_hullOf q_19 f_nameOf)) else (ogb (m_X7_put 6 f_nameOf q_27 (-6)) (fun q_55 => (m_X1_askFor_58 f_port_rank v1 v2 f_hullOf q_19 q_55)))))))) : Option ((Nat → Int32) × (Nat → Int32) × (Nat → Int32))) = some res := h
  refine ct_entry (cc := cX1_askFor) (nl := 4) (ret := none) (own := RX1) (lv0 := [(0, .ref a_t), (1, .int v1), (2, .int v2)]) (by decide) rfl rfl (Nat.le_of_ble_eq_true rfl) rfl ?_
  intro p e s m args below meth c A Q hA hQ hr hnm B
  have iX1 : ∀ w ∈ wsX10, w ∈ wsX1_askFor := by decide +kernel
  have cut_58 : ∀ (v1 : Int32) (v2 : Int32) (f_hullOf : (Nat → Int32)) (f_left : (Nat → Int32)) (f_nameOf : (Nat → Int32)), m_X1_askFor_58 f_port_rank v1 v2 f_hullOf f_left f_nameOf = some res → WW p l e (headSpec wsX1_askFor ({ frames := 3, cells := 0, slots := 0, locals := 68 } : Room)).room s m args below meth c D A 4 0 0 Q [(a_t, .inr (1, [.ref a_port, .ref b_choice, .ref a_left, .ref a_nameOf, .ref a_hullOf, .ref b_best])), (a_port, .inr (3, [.ref b_port_may, .ref b_port_voyage, .ref b_port_luck, .ref a_port_rank, .ref b_port_worth])), (a_hullOf, .inl (cI, 5, .inl f_hullOf)), (a_left, .inl (cI, 6, .inl f_left)), (a_nameOf, .inl (cI, 6, .inl f_nameOf)), (a_port_rank, .inl (cI, 5, .inl f_port_rank))] [(0, .ref a_t), (1, .int v1), (2, .int v2)] [] 58 := by
    intro v1 v2 f_hullOf f_left f_nameOf h
    replace h : (ogb (m_X1_give f_hullOf f_nameOf v1 v2) (fun q_61 => some (q_61.1, f_left, q_61.2)) : Option ((Nat → Int32) × (Nat → Int32) × (Nat → Int32))) = some res := h
    refine ww_aload_n B dX1_askFor_58 0 rfl ?_
    refine ww_iload_n B dX1_askFor_59 1 rfl ?_
    refine ww_iload_n B dX1_askFor_60 2 rfl ?_
    obtain ⟨q_61, hq_61, h⟩ := og_b h
    refine ww_cvM B (k' := 0) (n' := 0) rfl rfl [0, 2, 4] [1, 3, 5] (wr := [(a_port, .inr (3, [.ref b_port_may, .ref b_port_voyage, .ref b_port_luck, .ref a_port_rank, .ref b_port_worth])), (a_left, .inl (cI, 6, .inl f_left)), (a_port_rank, .inl (cI, 5, .inl f_port_rank))]) (st := []) rfl rfl (by decide) (rr_V B (c_X1_give l D cI cZ a_t a_hullOf a_nameOf a_port b_choice a_left b_best f_hullOf f_nameOf v1 v2 hq_61) gX1_askFor_X1_give rfl rfl rfl (N := 2) rfl (by decide +kernel) ⟨Nat.le_of_ble_eq_true rfl, Nat.le_of_ble_eq_true rfl⟩ rfl dX1_askFor_61 0 rfl rfl (Nat.le_of_ble_eq_true rfl) ⟨Nat.le_of_ble_eq_true rfl, Nat.le_of_ble_eq_true rfl⟩) (ws' := [(a_port, .inr (3, [.ref b_port_may, .ref b_port_voyage, .ref b_port_luck, .ref a_port_rank, .ref b_port_worth])), (a_left, .inl (cI, 6, .inl f_left)), (a_port_rank, .inl (cI, 5, .inl f_port_rank)), (a_t, .inr (1, [.ref a_port, .ref b_choice, .ref a_left, .ref a_nameOf, .ref a_hullOf, .ref b_best])), (a_hullOf, .inl (cI, 5, .inl q_61.1)), (a_nameOf, .inl (cI, 6, .inl q_61.2))]) rfl ?_
    exact ww_vret B hA hQ hr dX1_askFor_64 (q_61.1, f_left, q_61.2) [3, 0, 4, 1, 5, 2] rfl (by decide) (og_s h).symm
  refine ww_aload_n B dX1_askFor_0 0 rfl ?_
  refine ww_get (ci := 1) (T := TX1) (C := RX1) (N := 6) B iX1 0 rfl rfl 2 (by decide) (by decide +kernel) rfl rfl dX1_askFor_1 ?_
  refine ww_iload_n B dX1_askFor_4 1 rfl ?_
  refine ww_aload_n B dX1_askFor_5 0 rfl ?_
  refine ww_get (ci := 1) (T := TX1) (C := RX1) (N := 6) B iX1 0 rfl rfl 2 (by decide) (by decide +kernel) rfl rfl dX1_askFor_6 ?_
  refine ww_iload_n B dX1_askFor_9 1 rfl ?_
  obtain ⟨q_10, hq_10, h⟩ := og_b h
  refine ww_ci0 B (k' := 0) (n' := 0) rfl rfl [3] [0, 1, 2, 4, 5] (wr := [(a_t, .inr (1, [.ref a_port, .ref b_choice, .ref a_left, .ref a_nameOf, .ref a_hullOf, .ref b_best])), (a_port, .inr (3, [.ref b_port_may, .ref b_port_voyage, .ref b_port_luck, .ref a_port_rank, .ref b_port_worth])), (a_hullOf, .inl (cI, 5, .inl f_hullOf)), (a_nameOf, .inl (cI, 6, .inl f_nameOf)), (a_port_rank, .inl (cI, 5, .inl f_port_rank))]) (st := [.int v1, .ref a_left]) rfl rfl (by decide) (rr_SN B (c_X7_at l D cI cZ a_left 6 f_left v1 hq_10) gX1_askFor_X7_at_n40 rfl rfl rfl (by decide +kernel) (by decide +kernel) (by decide +kernel) (N := 2) rfl (by decide +kernel) ⟨Nat.le_of_ble_eq_true rfl, Nat.le_of_ble_eq_true rfl⟩ rfl dX1_askFor_10 (Nat.le_of_ble_eq_true rfl) ⟨Nat.le_of_ble_eq_true rfl, Nat.le_of_ble_eq_true rfl⟩) (ws' := [(a_t, .inr (1, [.ref a_port, .ref b_choice, .ref a_left, .ref a_nameOf, .ref a_hullOf, .ref b_best])), (a_port, .inr (3, [.ref b_port_may, .ref b_port_voyage, .ref b_port_luck, .ref a_port_rank, .ref b_port_worth])), (a_hullOf, .inl (cI, 5, .inl f_hullOf)), (a_nameOf, .inl (cI, 6, .inl f_nameOf)), (a_port_rank, .inl (cI, 5, .inl f_port_rank)), (a_left, .inl (cI, 6, .inl f_left))]) rfl ?_
  refine ww_iconst B dX1_askFor_13 (v := 1) (by decide) ?_
  refine ww_iload_n B dX1_askFor_14 2 rfl ?_
  refine ww_ishl B dX1_askFor_15 ?_
  refine ww_iconst B dX1_askFor_16 (v := (-1)) (by decide) ?_
  refine ww_ixor B dX1_askFor_17 ?_
  refine ww_iand B dX1_askFor_18 ?_
  obtain ⟨q_19, hq_19, h⟩ := og_b h
  refine ww_cvM B (k' := 0) (n' := 0) rfl rfl [5] [0, 1, 2, 3, 4] (wr := [(a_t, .inr (1, [.ref a_port, .ref b_choice, .ref a_left, .ref a_nameOf, .ref a_hullOf, .ref b_best])), (a_port, .inr (3, [.ref b_port_may, .ref b_port_voyage, .ref b_port_luck, .ref a_port_rank, .ref b_port_worth])), (a_hullOf, .inl (cI, 5, .inl f_hullOf)), (a_nameOf, .inl (cI, 6, .inl f_nameOf)), (a_port_rank, .inl (cI, 5, .inl f_port_rank))]) (st := []) rfl rfl (by decide) (rr_SN B (c_X7_put l D cI cZ a_left 6 f_left v1 (q_10 &&& ((((1 : Int32) <<< ((v2 : Int32) &&& 31)) : Int32) ^^^ ((-1) : Int32))) hq_19) gX1_askFor_X7_put_n48 rfl rfl rfl (by decide +kernel) (by decide +kernel) (by decide +kernel) (N := 3) rfl (by decide +kernel) ⟨Nat.le_of_ble_eq_true rfl, Nat.le_of_ble_eq_true rfl⟩ rfl dX1_askFor_19 (Nat.le_of_ble_eq_true rfl) ⟨Nat.le_of_ble_eq_true rfl, Nat.le_of_ble_eq_true rfl⟩) (ws' := [(a_t, .inr (1, [.ref a_port, .ref b_choice, .ref a_left, .ref a_nameOf, .ref a_hullOf, .ref b_best])), (a_port, .inr (3, [.ref b_port_may, .ref b_port_voyage, .ref b_port_luck, .ref a_port_rank, .ref b_port_worth])), (a_hullOf, .inl (cI, 5, .inl f_hullOf)), (a_nameOf, .inl (cI, 6, .inl f_nameOf)), (a_port_rank, .inl (cI, 5, .inl f_port_rank)), (a_left, .inl (cI, 6, .inl q_19))]) rfl ?_
  refine ww_aload_n B dX1_askFor_22 0 rfl ?_
  refine ww_get (ci := 1) (T := TX1) (C := RX1) (N := 6) B iX1 0 rfl rfl 4 (by decide) (by decide +kernel) rfl rfl dX1_askFor_23 ?_
  refine ww_iload_n B dX1_askFor_26 2 rfl ?_
  obtain ⟨q_27, hq_27, h⟩ := og_b h
  refine ww_ci0 B (k' := 0) (n' := 0) rfl rfl [2] [0, 1, 3, 4, 5] (wr := [(a_t, .inr (1, [.ref a_port, .ref b_choice, .ref a_left, .ref a_nameOf, .ref a_hullOf, .ref b_best])), (a_port, .inr (3, [.ref b_port_may, .ref b_port_voyage, .ref b_port_luck, .ref a_port_rank, .ref b_port_worth])), (a_nameOf, .inl (cI, 6, .inl f_nameOf)), (a_port_rank, .inl (cI, 5, .inl f_port_rank)), (a_left, .inl (cI, 6, .inl q_19))]) (st := []) rfl rfl (by decide) (rr_SN B (c_X7_at l D cI cZ a_hullOf 5 f_hullOf v2 hq_27) gX1_askFor_X7_at_n40 rfl rfl rfl (by decide +kernel) (by decide +kernel) (by decide +kernel) (N := 2) rfl (by decide +kernel) ⟨Nat.le_of_ble_eq_true rfl, Nat.le_of_ble_eq_true rfl⟩ rfl dX1_askFor_27 (Nat.le_of_ble_eq_true rfl) ⟨Nat.le_of_ble_eq_true rfl, Nat.le_of_ble_eq_true rfl⟩) (ws' := [(a_t, .inr (1, [.ref a_port, .ref b_choice, .ref a_left, .ref a_nameOf, .ref a_hullOf, .ref b_best])), (a_port, .inr (3, [.ref b_port_may, .ref b_port_voyage, .ref b_port_luck, .ref a_port_rank, .ref b_port_worth])), (a_nameOf, .inl (cI, 6, .inl f_nameOf)), (a_port_rank, .inl (cI, 5, .inl f_port_rank)), (a_left, .inl (cI, 6, .inl q_19)), (a_hullOf, .inl (cI, 5, .inl f_hullOf))]) rfl ?_
  refine ww_istore_n B dX1_askFor_30 (lv' := [(3, .int q_27), (0, .ref a_t), (1, .int v1), (2, .int v2)]) (by decide) rfl ?_
  refine ww_aload_n B dX1_askFor_31 1 rfl ?_
  refine ww_iload_n B dX1_askFor_32 3 rfl ?_
  refine ww_iload_n B dX1_askFor_33 2 rfl ?_
  refine ww_iload_n B dX1_askFor_34 0 rfl ?_
  obtain ⟨q_35, hq_35, h⟩ := og_b h
  refine ww_ci0 B (k' := 0) (n' := 0) rfl rfl [0, 1, 3] [2, 4, 5] (wr := [(a_nameOf, .inl (cI, 6, .inl f_nameOf)), (a_left, .inl (cI, 6, .inl q_19)), (a_hullOf, .inl (cI, 5, .inl f_hullOf))]) (st := []) rfl rfl (by decide) (rr_V B (c_X1_namePrefers l D cI cZ a_t a_port a_port_rank b_choice a_left a_nameOf a_hullOf b_best b_port_may b_port_voyage b_port_luck b_port_worth f_port_rank v2 v1 q_27 hq_35) gX1_askFor_X1_namePrefers rfl rfl rfl (N := 3) rfl (by decide +kernel) ⟨Nat.le_of_ble_eq_true rfl, Nat.le_of_ble_eq_true rfl⟩ rfl dX1_askFor_35 0 rfl rfl (Nat.le_of_ble_eq_true rfl) ⟨Nat.le_of_ble_eq_true rfl, Nat.le_of_ble_eq_true rfl⟩) (ws' := [(a_nameOf, .inl (cI, 6, .inl f_nameOf)), (a_left, .inl (cI, 6, .inl q_19)), (a_hullOf, .inl (cI, 5, .inl f_hullOf)), (a_t, .inr (1, [.ref a_port, .ref b_choice, .ref a_left, .ref a_nameOf, .ref a_hullOf, .ref b_best])), (a_port, .inr (3, [.ref b_port_may, .ref b_port_voyage, .ref b_port_luck, .ref a_port_rank, .ref b_port_worth])), (a_port_rank, .inl (cI, 5, .inl f_port_rank))]) rfl ?_
  refine ww_if_ne B 42 dX1_askFor_38 (by decide) (fun c_38 => ?_) (fun c_38 => ?_)
  · replace h := og_f c_38 h
    refine ww_iload_n B dX1_askFor_42 0 rfl ?_
    refine ww_bipush B dX1_askFor_43 (v := (-6)) (by decide) ?_
    refine ww_icmp_eq B 58 dX1_askFor_45 (by decide) (fun c_45 => ?_) (fun c_45 => ?_)
    · replace h := og_t c_45 h
      refine ww_sub (ws' := [(a_t, .inr (1, [.ref a_port, .ref b_choice, .ref a_left, .ref a_nameOf, .ref a_hullOf, .ref b_best])), (a_port, .inr (3, [.ref b_port_may, .ref b_port_voyage, .ref b_port_luck, .ref a_port_rank, .ref b_port_worth])), (a_hullOf, .inl (cI, 5, .inl f_hullOf)), (a_left, .inl (cI, 6, .inl q_19)), (a_nameOf, .inl (cI, 6, .inl f_nameOf)), (a_port_rank, .inl (cI, 5, .inl f_port_rank))]) [3, 4, 2, 1, 0, 5] rfl (by decide) ?_
      refine ww_lsel (lv' := [(0, .ref a_t), (1, .int v1), (2, .int v2)]) [1, 2, 3] rfl ?_
      exact cut_58 _ _ _ _ _ h
    · replace h := og_f c_45 h
      refine ww_aload_n B dX1_askFor_48 1 rfl ?_
      refine ww_get (ci := 1) (T := TX1) (C := RX1) (N := 6) B iX1 3 rfl rfl 3 (by decide) (by decide +kernel) rfl rfl dX1_askFor_49 ?_
      refine ww_iload_n B dX1_askFor_52 0 rfl ?_
      refine ww_bipush B dX1_askFor_53 (v := (-6)) (by decide) ?_
      obtain ⟨q_55, hq_55, h⟩ := og_b h
      refine ww_cvM B (k' := 0) (n' := 0) rfl rfl [0] [1, 2, 3, 4, 5] (wr := [(a_left, .inl (cI, 6, .inl q_19)), (a_hullOf, .inl (cI, 5, .inl f_hullOf)), (a_t, .inr (1, [.ref a_port, .ref b_choice, .ref a_left, .ref a_nameOf, .ref a_hullOf, .ref b_best])), (a_port, .inr (3, [.ref b_port_may, .ref b_port_voyage, .ref b_port_luck, .ref a_port_rank, .ref b_port_worth])), (a_port_rank, .inl (cI, 5, .inl f_port_rank))]) (st := []) rfl rfl (by decide) (rr_SN B (c_X7_put l D cI cZ a_nameOf 6 f_nameOf q_27 (-6) hq_55) gX1_askFor_X7_put_n48 rfl rfl rfl (by decide +kernel) (by decide +kernel) (by decide +kernel) (N := 3) rfl (by decide +kernel) ⟨Nat.le_of_ble_eq_true rfl, Nat.le_of_ble_eq_true rfl⟩ rfl dX1_askFor_55 (Nat.le_of_ble_eq_true rfl) ⟨Nat.le_of_ble_eq_true rfl, Nat.le_of_ble_eq_true rfl⟩) (ws' := [(a_left, .inl (cI, 6, .inl q_19)), (a_hullOf, .inl (cI, 5, .inl f_hullOf)), (a_t, .inr (1, [.ref a_port, .ref b_choice, .ref a_left, .ref a_nameOf, .ref a_hullOf, .ref b_best])), (a_port, .inr (3, [.ref b_port_may, .ref b_port_voyage, .ref b_port_luck, .ref a_port_rank, .ref b_port_worth])), (a_port_rank, .inl (cI, 5, .inl f_port_rank)), (a_nameOf, .inl (cI, 6, .inl q_55))]) rfl ?_
      refine ww_sub (ws' := [(a_t, .inr (1, [.ref a_port, .ref b_choice, .ref a_left, .ref a_nameOf, .ref a_hullOf, .ref b_best])), (a_port, .inr (3, [.ref b_port_may, .ref b_port_voyage, .ref b_port_luck, .ref a_port_rank, .ref b_port_worth])), (a_hullOf, .inl (cI, 5, .inl f_hullOf)), (a_left, .inl (cI, 6, .inl q_19)), (a_nameOf, .inl (cI, 6, .inl q_55)), (a_port_rank, .inl (cI, 5, .inl f_port_rank))]) [2, 3, 1, 0, 5, 4] rfl (by decide) ?_
      refine ww_lsel (lv' := [(0, .ref a_t), (1, .int v1), (2, .int v2)]) [1, 2, 3] rfl ?_
      exact cut_58 _ _ _ _ _ h
  · replace h := og_t c_38 h
    exact ww_vret B hA hQ hr dX1_askFor_41 (f_hullOf, q_19, f_nameOf) [3, 4, 2, 1, 0, 5] rfl (by decide) (og_s h).symm
noncomputable def m_X1_gain (f_best : (Nat → Int32)) (f_port_worth : (Nat → Int32)) (v1 : Int32) (v2 : Int32) (v3 : Int32) : Option Int32 := ogb (m_X3_worthOf f_port_worth v1 v2) (fun q_9 => ogb (m_X7_at 224 f_best (((v1 + 1) * 32) + (v3 &&& ((((1 : Int32) <<< ((v2 : Int32) &&& 31)) : Int32) ^^^ ((-1) : Int32))))) (fun q_31 => some ((1000 + q_9) + q_31)))
set_option maxHeartbeats 4000000 in
set_option maxRecDepth 100000 in
theorem c_X1_gain (l : Launch) (D : va_G) (cI cZ : ClassId) (a_t a_port a_best a_port_worth b_choice b_left b_nameOf b_hullOf b_port_may b_port_voyage b_port_luck b_port_rank : Nat) (f_best : (Nat → Int32)) (f_port_worth : (Nat → Int32)) (v1 : Int32) (v2 : Int32) (v3 : Int32) {res : Int32} (h : m_X1_gain f_best f_port_worth v1 v2 v3 = some res) : CT l yX1_gain wsX1_gain ({ frames := 2, cells := 0, slots := 0, locals := 42 } : Room) D cI cZ [.ref a_t, .int v1, .int v2, .int v3] [(a_t, .inr (1, [.ref a_port, .ref b_choice, .ref b_left, .ref b_nameOf, .ref b_hullOf, .ref a_best])), (a_port, .inr (3, [.ref b_port_may, .ref b_port_voyage, .ref b_port_luck, .ref b_port_rank, .ref a_port_worth])), (a_best, .inl (cI, 224, .inl f_best)), (a_port_worth, .inl (cI, 30, .inl f_port_worth))] (QI D [(a_t, .inr (1, [.ref a_port, .ref b_choice, .ref b_left, .ref b_nameOf, .ref b_hullOf, .ref a_best])), (a_port, .inr (3, [.ref b_port_may, .ref b_port_voyage, .ref b_port_luck, .ref b_port_rank, .ref a_port_worth])), (a_best, .inl (cI, 224, .inl f_best)), (a_port_worth, .inl (cI, 30, .inl f_port_worth))] (fun (r : Int32) (_ : Unit) => r = res) (fun (u : Unit) => [(a_t, .inr (1, [.ref a_port, .ref b_choice, .ref b_left, .ref b_nameOf, .ref b_hullOf, .ref a_best])), (a_port, .inr (3, [.ref b_port_may, .ref b_port_voyage, .ref b_port_luck, .ref b_port_rank, .ref a_port_worth])), (a_best, .inl (cI, 224, .inl f_best)), (a_port_worth, .inl (cI, 30, .inl f_port_worth))])) 0 0 := by
  have h : (ogb (m_X3_worthOf f_port_worth v1 v2) (fun q_9 => ogb (m_X7_at 224 f_best (((v1 + 1) * 32) + (v3 &&& ((((1 : Int32) <<< ((v2 : Int32) &&& 31)) : Int32) ^^^ ((-1) : Int32))))) (fun q_31 => some ((1000 + q_9) + q_31))) : Option Int32) = some res := h
  refine ct_entry (cc := cX1_gain) (nl := 4) (ret := (some .int)) (own := RX1) (lv0 := [(0, .ref a_t), (1, .int v1), (2, .int v2), (3, .int v3)]) (by decide) rfl rfl (Nat.le_of_ble_eq_true rfl) rfl ?_
  intro p e s m args below meth c A Q hA hQ hr hnm B
  have iX1 : ∀ w ∈ wsX10, w ∈ wsX1_gain := by decide +kernel
  refine ww_sipush B dX1_gain_0 (v := 1000) (by decide) ?_
  refine ww_aload_n B dX1_gain_3 0 rfl ?_
  refine ww_get (ci := 1) (T := TX1) (C := RX1) (N := 6) B iX1 0 rfl rfl 0 (by decide) (by decide +kernel) rfl rfl dX1_gain_4 ?_
  refine ww_iload_n B dX1_gain_7 1 rfl ?_
  refine ww_iload_n B dX1_gain_8 2 rfl ?_
  obtain ⟨q_9, hq_9, h⟩ := og_b h
  refine ww_ci0 B (k' := 0) (n' := 0) rfl rfl [1, 3] [0, 2] (wr := [(a_t, .inr (1, [.ref a_port, .ref b_choice, .ref b_left, .ref b_nameOf, .ref b_hullOf, .ref a_best])), (a_best, .inl (cI, 224, .inl f_best))]) (st := [.int 1000]) rfl rfl (by decide) (rr_V B (c_X3_worthOf l D cI cZ a_port a_port_worth b_port_may b_port_voyage b_port_luck b_port_rank f_port_worth v1 v2 hq_9) gX1_gain_X3_worthOf rfl rfl rfl (N := 2) rfl (by decide +kernel) ⟨Nat.le_of_ble_eq_true rfl, Nat.le_of_ble_eq_true rfl⟩ rfl dX1_gain_9 0 rfl rfl (Nat.le_of_ble_eq_true rfl) ⟨Nat.le_of_ble_eq_true rfl, Nat.le_of_ble_eq_true rfl⟩) (ws' := [(a_t, .inr (1, [.ref a_port, .ref b_choice, .ref b_left, .ref b_nameOf, .ref b_hullOf, .ref a_best])), (a_best, .inl (cI, 224, .inl f_best)), (a_port, .inr (3, [.ref b_port_may, .ref b_port_voyage, .ref b_port_luck, .ref b_port_rank, .ref a_port_worth])), (a_port_worth, .inl (cI, 30, .inl f_port_worth))]) rfl ?_
  refine ww_iadd B dX1_gain_12 ?_
  refine ww_aload_n B dX1_gain_13 0 rfl ?_
  refine ww_get (ci := 1) (T := TX1) (C := RX1) (N := 6) B iX1 0 rfl rfl 5 (by decide) (by decide +kernel) rfl rfl dX1_gain_14 ?_
  refine ww_iload_n B dX1_gain_17 1 rfl ?_
  refine ww_iconst B dX1_gain_18 (v := 1) (by decide) ?_
  refine ww_iadd B dX1_gain_19 ?_
  refine ww_bipush B dX1_gain_20 (v := 32) (by decide) ?_
  refine ww_imul B dX1_gain_22 ?_
  refine ww_iload_n B dX1_gain_23 3 rfl ?_
  refine ww_iconst B dX1_gain_24 (v := 1) (by decide) ?_
  refine ww_iload_n B dX1_gain_25 2 rfl ?_
  refine ww_ishl B dX1_gain_26 ?_
  refine ww_iconst B dX1_gain_27 (v := (-1)) (by decide) ?_
  refine ww_ixor B dX1_gain_28 ?_
  refine ww_iand B dX1_gain_29 ?_
  refine ww_iadd B dX1_gain_30 ?_
  obtain ⟨q_31, hq_31, h⟩ := og_b h
  refine ww_ci0 B (k' := 0) (n' := 0) rfl rfl [1] [0, 2, 3] (wr := [(a_t, .inr (1, [.ref a_port, .ref b_choice, .ref b_left, .ref b_nameOf, .ref b_hullOf, .ref a_best])), (a_port, .inr (3, [.ref b_port_may, .ref b_port_voyage, .ref b_port_luck, .ref b_port_rank, .ref a_port_worth])), (a_port_worth, .inl (cI, 30, .inl f_port_worth))]) (st := [.int (1000 + q_9)]) rfl rfl (by decide) (rr_SN B (c_X7_at l D cI cZ a_best 224 f_best (((v1 + 1) * 32) + (v3 &&& ((((1 : Int32) <<< ((v2 : Int32) &&& 31)) : Int32) ^^^ ((-1) : Int32)))) hq_31) gX1_gain_X7_at_n40 rfl rfl rfl (by decide +kernel) (by decide +kernel) (by decide +kernel) (N := 2) rfl (by decide +kernel) ⟨Nat.le_of_ble_eq_true rfl, Nat.le_of_ble_eq_true rfl⟩ rfl dX1_gain_31 (Nat.le_of_ble_eq_true rfl) ⟨Nat.le_of_ble_eq_true rfl, Nat.le_of_ble_eq_true rfl⟩) (ws' := [(a_t, .inr (1, [.ref a_port, .ref b_choice, .ref b_left, .ref b_nameOf, .ref b_hullOf, .ref a_best])), (a_port, .inr (3, [.ref b_port_may, .ref b_port_voyage, .ref b_port_luck, .ref b_port_rank, .ref a_port_worth])), (a_port_worth, .inl (cI, 30, .inl f_port_worth)), (a_best, .inl (cI, 224, .inl f_best))]) rfl ?_
  refine ww_iadd B dX1_gain_34 ?_
  exact ww_iret B hA hQ hr dX1_gain_35 () [0, 1, 3, 2] rfl (by decide) (og_s h).symm
noncomputable def m_X1_bestGain_56 (k19 : Int32 → Int32 → Int32 → Int32 → Option Int32) (f_best : (Nat → Int32)) (f_choice : (Nat → Int32)) (f_port_worth : (Nat → Int32)) (v1 : Int32) (v2 : Int32) (v3 : Int32) (v4 : Int32) : Option Int32 := ogl (v4 + 1) (fun (v4_56 : Int32) => (k19 v1 v2 v3 v4_56))
noncomputable def m_X1_bestGain_19b (k19 : Int32 → Int32 → Int32 → Int32 → Option Int32) (f_best : (Nat → Int32)) (f_choice : (Nat → Int32)) (f_port_worth : (Nat → Int32)) (v1 : Int32) (v2 : Int32) (v3 : Int32) (v4 : Int32) : Option Int32 := if 5 ≤ v4 then (some v3) else (ogb (m_X7_at 6 f_choice v1) (fun q_30 => ogb (m_X7_hasBit (q_30 &&& v2) v4) (fun q_37 => if q_37 = 0 then ((m_X1_bestGain_56 k19 f_best f_choice f_port_worth v1 v2 v3 v4)) else (ogb (m_X1_gain f_best f_port_worth v1 v4 v2) (fun q_49 => ogl (if v3 < q_49 then q_49 else v3) (fun (v3_55 : Int32) => (m_X1_bestGain_56 k19 f_best f_choice f_port_worth v1 v2 v3_55 v4)))))))
noncomputable def m_X1_bestGain_19 (f_best : (Nat → Int32)) (f_choice : (Nat → Int32)) (f_port_worth : (Nat → Int32)) (fuel : Nat) : Int32 → Int32 → Int32 → Int32 → Option Int32 := Nat.rec (fun _ _ _ _ => none) (fun _ k19 => m_X1_bestGain_19b k19 f_best f_choice f_port_worth) fuel
noncomputable def m_X1_bestGain (f_best : (Nat → Int32)) (f_choice : (Nat → Int32)) (f_port_worth : (Nat → Int32)) (v1 : Int32) (v2 : Int32) : Option Int32 := ogb (m_X7_at 224 f_best (((v1 + 1) * 32) + v2)) (fun q_12 => (m_X1_bestGain_19 f_best f_choice f_port_worth 1000000 v1 v2 q_12 0))
set_option maxHeartbeats 4000000 in
set_option maxRecDepth 100000 in
theorem c_X1_bestGain (l : Launch) (D : va_G) (cI cZ : ClassId) (a_t a_port a_best a_choice a_port_worth b_left b_nameOf b_hullOf b_port_may b_port_voyage b_port_luck b_port_rank : Nat) (f_best : (Nat → Int32)) (f_choice : (Nat → Int32)) (f_port_worth : (Nat → Int32)) (v1 : Int32) (v2 : Int32) {res : Int32} (h : m_X1_bestGain f_best f_choice f_port_worth v1 v2 = some res) : CT l yX1_bestGain wsX1_bestGain ({ frames := 3, cells := 0, slots := 0, locals := 65 } : Room) D cI cZ [.ref a_t, .int v1, .int v2] [(a_t, .inr (1, [.ref a_port, .ref a_choice, .ref b_left, .ref b_nameOf, .ref b_hullOf, .ref a_best])), (a_port, .inr (3, [.ref b_port_may, .ref b_port_voyage, .ref b_port_luck, .ref b_port_rank, .ref a_port_worth])), (a_best, .inl (cI, 224, .inl f_best)), (a_choice, .inl (cI, 6, .inl f_choice)), (a_port_worth, .inl (cI, 30, .inl f_port_worth))] (QI D [(a_t, .inr (1, [.ref a_port, .ref a_choice, .ref b_left, .ref b_nameOf, .ref b_hullOf, .ref a_best])), (a_port, .inr (3, [.ref b_port_may, .ref b_port_voyage, .ref b_port_luck, .ref b_port_rank, .ref a_port_worth])), (a_best, .inl (cI, 224, .inl f_best)), (a_choice, .inl (cI, 6, .inl f_choice)), (a_port_worth, .inl (cI, 30, .inl f_port_worth))] (fun (r : Int32) (_ : Unit) => r = res) (fun (u : Unit) => [(a_t, .inr (1, [.ref a_port, .ref a_choice, .ref b_left, .ref b_nameOf, .ref b_hullOf, .ref a_best])), (a_port, .inr (3, [.ref b_port_may, .ref b_port_voyage, .ref b_port_luck, .ref b_port_rank, .ref a_port_worth])), (a_best, .inl (cI, 224, .inl f_best)), (a_choice, .inl (cI, 6, .inl f_choice)), (a_port_worth, .inl (cI, 30, .inl f_port_worth))])) 0 0 := by
  have h : (ogb (m_X7_at 224 f_best (((v1 + 1) * 32) + v2)) (fun q_12 => (m_X1_bestGain_19 f_best f_choice f_port_worth 1000000 v1 v2 q_12 0)) : Option Int32) = some res := h
  refine ct_entry (cc := cX1_bestGain) (nl := 5) (ret := (some .int)) (own := RX1) (lv0 := [(0, .ref a_t), (1, .int v1), (2, .int v2)]) (by decide) rfl rfl (Nat.le_of_ble_eq_true rfl) rfl ?_
  intro p e s m args below meth c A Q hA hQ hr hnm B
  have iX1 : ∀ w ∈ wsX10, w ∈ wsX1_bestGain := by decide +kernel
  have cut_19 : ∀ (fuel : Nat) (v1 : Int32) (v2 : Int32) (v3 : Int32) (v4 : Int32), m_X1_bestGain_19 f_best f_choice f_port_worth fuel v1 v2 v3 v4 = some res → WW p l e (headSpec wsX1_bestGain ({ frames := 3, cells := 0, slots := 0, locals := 65 } : Room)).room s m args below meth c D A 5 0 0 Q [(a_t, .inr (1, [.ref a_port, .ref a_choice, .ref b_left, .ref b_nameOf, .ref b_hullOf, .ref a_best])), (a_port, .inr (3, [.ref b_port_may, .ref b_port_voyage, .ref b_port_luck, .ref b_port_rank, .ref a_port_worth])), (a_best, .inl (cI, 224, .inl f_best)), (a_choice, .inl (cI, 6, .inl f_choice)), (a_port_worth, .inl (cI, 30, .inl f_port_worth))] [(0, .ref a_t), (1, .int v1), (2, .int v2), (3, .int v3), (4, .int v4)] [] 19 := by
    intro fuel_19
    induction fuel_19 with
    | zero => intro v1 v2 v3 v4 h; exact og_0 h
    | succ fuel_19 ih_19 =>
      have cut_56 : ∀ (v1 : Int32) (v2 : Int32) (v3 : Int32) (v4 : Int32), m_X1_bestGain_56 (m_X1_bestGain_19 f_best f_choice f_port_worth fuel_19) f_best f_choice f_port_worth v1 v2 v3 v4 = some res → WW p l e (headSpec wsX1_bestGain ({ frames := 3, cells := 0, slots := 0, locals := 65 } : Room)).room s m args below meth c D A 5 0 0 Q [(a_t, .inr (1, [.ref a_port, .ref a_choice, .ref b_left, .ref b_nameOf, .ref b_hullOf, .ref a_best])), (a_port, .inr (3, [.ref b_port_may, .ref b_port_voyage, .ref b_port_luck, .ref b_port_rank, .ref a_port_worth])), (a_best, .inl (cI, 224, .inl f_best)), (a_choice, .inl (cI, 6, .inl f_choice)), (a_port_worth, .inl (cI, 30, .inl f_port_worth))] [(0, .ref a_t), (1, .int v1), (2, .int v2), (3, .int v3), (4, .int v4)] [] 56 := by
        intro v1 v2 v3 v4 h
        replace h : (ogl (v4 + 1) (fun (v4_56 : Int32) => ((m_X1_bestGain_19 f_best f_choice f_port_worth fuel_19) v1 v2 v3 v4_56)) : Option Int32) = some res := h
        obtain ⟨v4_56, ev4_56⟩ : ∃ y : Int32, y = (v4 + 1) := ⟨_, rfl⟩
        refine ww_iinc B dX1_bestGain_56 4 rfl (v := v4_56) (by rw [ev4_56]; rfl) (by decide) (lv' := [(4, .int v4_56), (0, .ref a_t), (1, .int v1), (2, .int v2), (3, .int v3)]) rfl ?_
        replace h := og_l ev4_56 h
        refine ww_goto B 19 dX1_bestGain_59 (by decide) ?_
        refine ww_lsel (lv' := [(0, .ref a_t), (1, .int v1), (2, .int v2), (3, .int v3), (4, .int v4_56)]) [1, 2, 3, 4, 0] rfl ?_
        exact ih_19 _ _ _ _ h
      intro v1 v2 v3 v4 h
      replace h : (if 5 ≤ v4 then (some v3) else (ogb (m_X7_at 6 f_choice v1) (fun q_30 => ogb (m_X7_hasBit (q_30 &&& v2) v4) (fun q_37 => if q_37 = 0 then ((m_X1_bestGain_56 (m_X1_bestGain_19 f_best f_choice f_port_worth fuel_19) f_best f_choice f_port_worth v1 v2 v3 v4)) else (ogb (m_X1_gain f_best f_port_worth v1 v4 v2) (fun q_49 => ogl (if v3 < q_49 then q_49 else v3) (fun (v3_55 : Int32) => (m_X1_bestGain_56 (m_X1_bestGain_19 f_best f_choice f_port_worth fuel_19) f_best f_choice f_port_worth v1 v2 v3_55 v4))))))) : Option Int32) = some res := h
      refine ww_iload B dX1_bestGain_19 4 rfl ?_
      refine ww_iconst B dX1_bestGain_21 (v := 5) (by decide) ?_
      refine ww_icmp_ge B 62 dX1_bestGain_22 (by decide) (fun c_22 => ?_) (fun c_22 => ?_)
      · replace h := og_t c_22 h
        refine ww_iload_n B dX1_bestGain_62 3 rfl ?_
        exact ww_iret B hA hQ hr dX1_bestGain_63 () [0, 1, 2, 3, 4] rfl (by decide) (og_s h).symm
      · replace h := og_f c_22 h
        refine ww_aload_n B dX1_bestGain_25 0 rfl ?_
        refine ww_get (ci := 1) (T := TX1) (C := RX1) (N := 6) B iX1 0 rfl rfl 1 (by decide) (by decide +kernel) rfl rfl dX1_bestGain_26 ?_
        refine ww_iload_n B dX1_bestGain_29 1 rfl ?_
        obtain ⟨q_30, hq_30, h⟩ := og_b h
        refine ww_ci0 B (k' := 0) (n' := 0) rfl rfl [3] [0, 1, 2, 4] (wr := [(a_t, .inr (1, [.ref a_port, .ref a_choice, .ref b_left, .ref b_nameOf, .ref b_hullOf, .ref a_best])), (a_port, .inr (3, [.ref b_port_may, .ref b_port_voyage, .ref b_port_luck, .ref b_port_rank, .ref a_port_worth])), (a_best, .inl (cI, 224, .inl f_best)), (a_port_worth, .inl (cI, 30, .inl f_port_worth))]) (st := []) rfl rfl (by decide) (rr_SN B (c_X7_at l D cI cZ a_choice 6 f_choice v1 hq_30) gX1_bestGain_X7_at_n40 rfl rfl rfl (by decide +kernel) (by decide +kernel) (by decide +kernel) (N := 2) rfl (by decide +kernel) ⟨Nat.le_of_ble_eq_true rfl, Nat.le_of_ble_eq_true rfl⟩ rfl dX1_bestGain_30 (Nat.le_of_ble_eq_true rfl) ⟨Nat.le_of_ble_eq_true rfl, Nat.le_of_ble_eq_true rfl⟩) (ws' := [(a_t, .inr (1, [.ref a_port, .ref a_choice, .ref b_left, .ref b_nameOf, .ref b_hullOf, .ref a_best])), (a_port, .inr (3, [.ref b_port_may, .ref b_port_voyage, .ref b_port_luck, .ref b_port_rank, .ref a_port_worth])), (a_best, .inl (cI, 224, .inl f_best)), (a_port_worth, .inl (cI, 30, .inl f_port_worth)), (a_choice, .inl (cI, 6, .inl f_choice))]) rfl ?_
        refine ww_iload_n B dX1_bestGain_33 2 rfl ?_
        refine ww_iand B dX1_bestGain_34 ?_
        refine ww_iload B dX1_bestGain_35 4 rfl ?_
        obtain ⟨q_37, hq_37, h⟩ := og_b h
        refine ww_ci0 B (k' := 0) (n' := 0) rfl rfl [] [0, 1, 2, 3, 4] (wr := [(a_t, .inr (1, [.ref a_port, .ref a_choice, .ref b_left, .ref b_nameOf, .ref b_hullOf, .ref a_best])), (a_port, .inr (3, [.ref b_port_may, .ref b_port_voyage, .ref b_port_luck, .ref b_port_rank, .ref a_port_worth])), (a_best, .inl (cI, 224, .inl f_best)), (a_port_worth, .inl (cI, 30, .inl f_port_worth)), (a_choice, .inl (cI, 6, .inl f_choice))]) (st := []) rfl rfl (by decide) (rr_SN B (c_X7_hasBit l D cI cZ (q_30 &&& v2) v4 hq_37) gX1_bestGain_X7_hasBit_n31 rfl rfl rfl (by decide +kernel) (by decide +kernel) (by decide +kernel) (N := 2) rfl (by decide +kernel) ⟨Nat.le_of_ble_eq_true rfl, Nat.le_of_ble_eq_true rfl⟩ rfl dX1_bestGain_37 (Nat.le_of_ble_eq_true rfl) ⟨Nat.le_of_ble_eq_true rfl, Nat.le_of_ble_eq_true rfl⟩) (ws' := [(a_t, .inr (1, [.ref a_port, .ref a_choice, .ref b_left, .ref b_nameOf, .ref b_hullOf, .ref a_best])), (a_port, .inr (3, [.ref b_port_may, .ref b_port_voyage, .ref b_port_luck, .ref b_port_rank, .ref a_port_worth])), (a_best, .inl (cI, 224, .inl f_best)), (a_port_worth, .inl (cI, 30, .inl f_port_worth)), (a_choice, .inl (cI, 6, .inl f_choice))]) rfl ?_
        refine ww_if_eq B 56 dX1_bestGain_40 (by decide) (fun c_40 => ?_) (fun c_40 => ?_)
        · replace h := og_t c_40 h
          refine ww_sub (ws' := [(a_t, .inr (1, [.ref a_port, .ref a_choice, .ref b_left, .ref b_nameOf, .ref b_hullOf, .ref a_best])), (a_port, .inr (3, [.ref b_port_may, .ref b_port_voyage, .ref b_port_luck, .ref b_port_rank, .ref a_port_worth])), (a_best, .inl (cI, 224, .inl f_best)), (a_choice, .inl (cI, 6, .inl f_choice)), (a_port_worth, .inl (cI, 30, .inl f_port_worth))]) [0, 1, 2, 4, 3] rfl (by decide) ?_
          exact cut_56 _ _ _ _ h
        · replace h := og_f c_40 h
          refine ww_iload_n B dX1_bestGain_43 3 rfl ?_
          refine ww_aload_n B dX1_bestGain_44 0 rfl ?_
          refine ww_iload_n B dX1_bestGain_45 1 rfl ?_
          refine ww_iload B dX1_bestGain_46 4 rfl ?_
          refine ww_iload_n B dX1_bestGain_48 2 rfl ?_
          obtain ⟨q_49, hq_49, h⟩ := og_b h
          refine ww_ci0 B (k' := 0) (n' := 0) rfl rfl [0, 1, 2, 3] [4] (wr := [(a_choice, .inl (cI, 6, .inl f_choice))]) (st := [.int v3]) rfl rfl (by decide) (rr_V B (c_X1_gain l D cI cZ a_t a_port a_best a_port_worth a_choice b_left b_nameOf b_hullOf b_port_may b_port_voyage b_port_luck b_port_rank f_best f_port_worth v1 v4 v2 hq_49) gX1_bestGain_X1_gain rfl rfl rfl (N := 3) rfl (by decide +kernel) ⟨Nat.le_of_ble_eq_true rfl, Nat.le_of_ble_eq_true rfl⟩ rfl dX1_bestGain_49 0 rfl rfl (Nat.le_of_ble_eq_true rfl) ⟨Nat.le_of_ble_eq_true rfl, Nat.le_of_ble_eq_true rfl⟩) (ws' := [(a_choice, .inl (cI, 6, .inl f_choice)), (a_t, .inr (1, [.ref a_port, .ref a_choice, .ref b_left, .ref b_nameOf, .ref b_hullOf, .ref a_best])), (a_port, .inr (3, [.ref b_port_may, .ref b_port_voyage, .ref b_port_luck, .ref b_port_rank, .ref a_port_worth])), (a_best, .inl (cI, 224, .inl f_best)), (a_port_worth, .inl (cI, 30, .inl f_port_worth))]) rfl ?_
          refine ww_mmax B (by decide +kernel) (by decide +kernel) (by decide +kernel) (by decide +kernel) (Nat.le_of_ble_eq_true rfl) (Nat.le_of_ble_eq_true rfl) (Nat.le_of_ble_eq_true rfl) (Nat.le_of_ble_eq_true rfl) dX1_bestGain_52 ?_
          refine ww_topi (fun v3_55 ev3_55 => ?_)
          replace h := og_l ev3_55 h
          refine ww_istore_n B dX1_bestGain_55 (lv' := [(3, .int v3_55), (0, .ref a_t), (1, .int v1), (2, .int v2), (4, .int v4)]) (by decide) rfl ?_
          refine ww_sub (ws' := [(a_t, .inr (1, [.ref a_port, .ref a_choice, .ref b_left, .ref b_nameOf, .ref b_hullOf, .ref a_best])), (a_port, .inr (3, [.ref b_port_may, .ref b_port_voyage, .ref b_port_luck, .ref b_port_rank, .ref a_port_worth])), (a_best, .inl (cI, 224, .inl f_best)), (a_choice, .inl (cI, 6, .inl f_choice)), (a_port_worth, .inl (cI, 30, .inl f_port_worth))]) [1, 2, 3, 0, 4] rfl (by decide) ?_
          refine ww_lsel (lv' := [(0, .ref a_t), (1, .int v1), (2, .int v2), (3, .int v3_55), (4, .int v4)]) [1, 2, 3, 0, 4] rfl ?_
          exact cut_56 _ _ _ _ h
  refine ww_aload_n B dX1_bestGain_0 0 rfl ?_
  refine ww_get (ci := 1) (T := TX1) (C := RX1) (N := 6) B iX1 0 rfl rfl 5 (by decide) (by decide +kernel) rfl rfl dX1_bestGain_1 ?_
  refine ww_iload_n B dX1_bestGain_4 1 rfl ?_
  refine ww_iconst B dX1_bestGain_5 (v := 1) (by decide) ?_
  refine ww_iadd B dX1_bestGain_6 ?_
  refine ww_bipush B dX1_bestGain_7 (v := 32) (by decide) ?_
  refine ww_imul B dX1_bestGain_9 ?_
  refine ww_iload_n B dX1_bestGain_10 2 rfl ?_
  refine ww_iadd B dX1_bestGain_11 ?_
  obtain ⟨q_12, hq_12, h⟩ := og_b h
  refine ww_ci0 B (k' := 0) (n' := 0) rfl rfl [2] [0, 1, 3, 4] (wr := [(a_t, .inr (1, [.ref a_port, .ref a_choice, .ref b_left, .ref b_nameOf, .ref b_hullOf, .ref a_best])), (a_port, .inr (3, [.ref b_port_may, .ref b_port_voyage, .ref b_port_luck, .ref b_port_rank, .ref a_port_worth])), (a_choice, .inl (cI, 6, .inl f_choice)), (a_port_worth, .inl (cI, 30, .inl f_port_worth))]) (st := []) rfl rfl (by decide) (rr_SN B (c_X7_at l D cI cZ a_best 224 f_best (((v1 + 1) * 32) + v2) hq_12) gX1_bestGain_X7_at_n40 rfl rfl rfl (by decide +kernel) (by decide +kernel) (by decide +kernel) (N := 2) rfl (by decide +kernel) ⟨Nat.le_of_ble_eq_true rfl, Nat.le_of_ble_eq_true rfl⟩ rfl dX1_bestGain_12 (Nat.le_of_ble_eq_true rfl) ⟨Nat.le_of_ble_eq_true rfl, Nat.le_of_ble_eq_true rfl⟩) (ws' := [(a_t, .inr (1, [.ref a_port, .ref a_choice, .ref b_left, .ref b_nameOf, .ref b_hullOf, .ref a_best])), (a_port, .inr (3, [.ref b_port_may, .ref b_port_voyage, .ref b_port_luck, .ref b_port_rank, .ref a_port_worth])), (a_choice, .inl (cI, 6, .inl f_choice)), (a_port_worth, .inl (cI, 30, .inl f_port_worth)), (a_best, .inl (cI, 224, .inl f_best))]) rfl ?_
  refine ww_istore_n B dX1_bestGain_15 (lv' := [(3, .int q_12), (0, .ref a_t), (1, .int v1), (2, .int v2)]) (by decide) rfl ?_
  refine ww_iconst B dX1_bestGain_16 (v := 0) (by decide) ?_
  refine ww_istore B dX1_bestGain_17 (lv' := [(4, .int 0), (3, .int q_12), (0, .ref a_t), (1, .int v1), (2, .int v2)]) (by decide) rfl ?_
  refine ww_sub (ws' := [(a_t, .inr (1, [.ref a_port, .ref a_choice, .ref b_left, .ref b_nameOf, .ref b_hullOf, .ref a_best])), (a_port, .inr (3, [.ref b_port_may, .ref b_port_voyage, .ref b_port_luck, .ref b_port_rank, .ref a_port_worth])), (a_best, .inl (cI, 224, .inl f_best)), (a_choice, .inl (cI, 6, .inl f_choice)), (a_port_worth, .inl (cI, 30, .inl f_port_worth))]) [0, 1, 4, 2, 3] rfl (by decide) ?_
  refine ww_lsel (lv' := [(0, .ref a_t), (1, .int v1), (2, .int v2), (3, .int q_12), (4, .int 0)]) [2, 3, 4, 1, 0] rfl ?_
  exact cut_19 _ _ _ _ _ h
noncomputable def m_X1_detail_48 (k7 : Int32 → Int32 → Int32 → Int32 → Option Int32) (f_nameOf : (Nat → Int32)) (f_port_worth : (Nat → Int32)) (v1 : Int32) (v2 : Int32) (v3 : Int32) (v4 : Int32) : Option Int32 := ogl (v4 + 1) (fun (v4_48 : Int32) => (k7 v1 v2 v3 v4_48))
noncomputable def m_X1_detail_7b (k7 : Int32 → Int32 → Int32 → Int32 → Option Int32) (f_nameOf : (Nat → Int32)) (f_port_worth : (Nat → Int32)) (v1 : Int32) (v2 : Int32) (v3 : Int32) (v4 : Int32) : Option Int32 := if 6 ≤ v4 then (if v1 = (-2) then (some v2) else (if v1 = (-1) then (some v3) else (ogb (m_X7_isHull v1) (fun q_70 => if q_70 = 0 then (some (-6)) else (ogi v1 6 (some (f_nameOf (Int32.toNatClampNeg v1)))))))) else (ogi v4 6 (if (f_nameOf (Int32.toNatClampNeg v4)) = (-6) then ((m_X1_detail_48 k7 f_nameOf f_port_worth v1 v2 v3 v4)) else (ogl (v2 + 1) (fun (v2_26 : Int32) => ogi v4 6 (ogb (m_X3_worthOf f_port_worth v4 (f_nameOf (Int32.toNatClampNeg v4))) (fun q_43 => ogl (v3 + q_43) (fun (v3_47 : Int32) => (m_X1_detail_48 k7 f_nameOf f_port_worth v1 v2_26 v3_47 v4))))))))
noncomputable def m_X1_detail_7 (f_nameOf : (Nat → Int32)) (f_port_worth : (Nat → Int32)) (fuel : Nat) : Int32 → Int32 → Int32 → Int32 → Option Int32 := Nat.rec (fun _ _ _ _ => none) (fun _ k7 => m_X1_detail_7b k7 f_nameOf f_port_worth) fuel
noncomputable def m_X1_detail (f_nameOf : (Nat → Int32)) (f_port_worth : (Nat → Int32)) (v1 : Int32) : Option Int32 := (m_X1_detail_7 f_nameOf f_port_worth 1000000 v1 0 0 0)
set_option maxHeartbeats 4000000 in
set_option maxRecDepth 100000 in
theorem c_X1_detail (l : Launch) (D : va_G) (cI cZ : ClassId) (a_t a_port a_nameOf a_port_worth b_choice b_left b_hullOf b_best b_port_may b_port_voyage b_port_luck b_port_rank : Nat) (f_nameOf : (Nat → Int32)) (f_port_worth : (Nat → Int32)) (v1 : Int32) {res : Int32} (h : m_X1_detail f_nameOf f_port_worth v1 = some res) : CT l yX1_detail wsX1_detail ({ frames := 2, cells := 0, slots := 0, locals := 42 } : Room) D cI cZ [.ref a_t, .int v1] [(a_t, .inr (1, [.ref a_port, .ref b_choice, .ref b_left, .ref a_nameOf, .ref b_hullOf, .ref b_best])), (a_port, .inr (3, [.ref b_port_may, .ref b_port_voyage, .ref b_port_luck, .ref b_port_rank, .ref a_port_worth])), (a_nameOf, .inl (cI, 6, .inl f_nameOf)), (a_port_worth, .inl (cI, 30, .inl f_port_worth))] (QI D [(a_t, .inr (1, [.ref a_port, .ref b_choice, .ref b_left, .ref a_nameOf, .ref b_hullOf, .ref b_best])), (a_port, .inr (3, [.ref b_port_may, .ref b_port_voyage, .ref b_port_luck, .ref b_port_rank, .ref a_port_worth])), (a_nameOf, .inl (cI, 6, .inl f_nameOf)), (a_port_worth, .inl (cI, 30, .inl f_port_worth))] (fun (r : Int32) (_ : Unit) => r = res) (fun (u : Unit) => [(a_t, .inr (1, [.ref a_port, .ref b_choice, .ref b_left, .ref a_nameOf, .ref b_hullOf, .ref b_best])), (a_port, .inr (3, [.ref b_port_may, .ref b_port_voyage, .ref b_port_luck, .ref b_port_rank, .ref a_port_worth])), (a_nameOf, .inl (cI, 6, .inl f_nameOf)), (a_port_worth, .inl (cI, 30, .inl f_port_worth))])) 0 0 := by
  have h : ((m_X1_detail_7 f_nameOf f_port_worth 1000000 v1 0 0 0) : Option Int32) = some res := h
  refine ct_entry (cc := cX1_detail) (nl := 5) (ret := (some .int)) (own := RX1) (lv0 := [(0, .ref a_t), (1, .int v1)]) (by decide) rfl rfl (Nat.le_of_ble_eq_true rfl) rfl ?_
  intro p e s m args below meth c A Q hA hQ hr hnm B
  have iX1 : ∀ w ∈ wsX10, w ∈ wsX1_detail := by decide +kernel
  have cut_7 : ∀ (fuel : Nat) (v1 : Int32) (v2 : Int32) (v3 : Int32) (v4 : Int32), m_X1_detail_7 f_nameOf f_port_worth fuel v1 v2 v3 v4 = some res → WW p l e (headSpec wsX1_detail ({ frames := 2, cells := 0, slots := 0, locals := 42 } : Room)).room s m args below meth c D A 5 0 0 Q [(a_t, .inr (1, [.ref a_port, .ref b_choice, .ref b_left, .ref a_nameOf, .ref b_hullOf, .ref b_best])), (a_port, .inr (3, [.ref b_port_may, .ref b_port_voyage, .ref b_port_luck, .ref b_port_rank, .ref a_port_worth])), (a_nameOf, .inl (cI, 6, .inl f_nameOf)), (a_port_worth, .inl (cI, 30, .inl f_port_worth))] [(0, .ref a_t), (1, .int v1), (2, .int v2), (3, .int v3), (4, .int v4)] [] 7 := by
    intro fuel_7
    induction fuel_7 with
    | zero => intro v1 v2 v3 v4 h; exact og_0 h
    | succ fuel_7 ih_7 =>
      have cut_48 : ∀ (v1 : Int32) (v2 : Int32) (v3 : Int32) (v4 : Int32), m_X1_detail_48 (m_X1_detail_7 f_nameOf f_port_worth fuel_7) f_nameOf f_port_worth v1 v2 v3 v4 = some res → WW p l e (headSpec wsX1_detail ({ frames := 2, cells := 0, slots := 0, locals := 42 } : Room)).room s m args below meth c D A 5 0 0 Q [(a_t, .inr (1, [.ref a_port, .ref b_choice, .ref b_left, .ref a_nameOf, .ref b_hullOf, .ref b_best])), (a_port, .inr (3, [.ref b_port_may, .ref b_port_voyage, .ref b_port_luck, .ref b_port_rank, .ref a_port_worth])), (a_nameOf, .inl (cI, 6, .inl f_nameOf)), (a_port_worth, .inl (cI, 30, .inl f_port_worth))] [(0, .ref a_t), (1, .int v1), (2, .int v2), (3, .int v3), (4, .int v4)] [] 48 := by
        intro v1 v2 v3 v4 h
        replace h : (ogl (v4 + 1) (fun (v4_48 : Int32) => ((m_X1_detail_7 f_nameOf f_port_worth fuel_7) v1 v2 v3 v4_48)) : Option Int32) = some res := h
        obtain ⟨v4_48, ev4_48⟩ : ∃ y : Int32, y = (v4 + 1) := ⟨_, rfl⟩
        refine ww_iinc B dX1_detail_48 4 rfl (v := v4_48) (by rw [ev4_48]; rfl) (by decide) (lv' := [(4, .int v4_48), (0, .ref a_t), (1, .int v1), (2, .int v2), (3, .int v3)]) rfl ?_
        replace h := og_l ev4_48 h
        refine ww_goto B 7 dX1_detail_51 (by decide) ?_
        refine ww_lsel (lv' := [(0, .ref a_t), (1, .int v1), (2, .int v2), (3, .int v3), (4, .int v4_48)]) [1, 2, 3, 4, 0] rfl ?_
        exact ih_7 _ _ _ _ h
      intro v1 v2 v3 v4 h
      replace h : (if 6 ≤ v4 then (if v1 = (-2) then (some v2) else (if v1 = (-1) then (some v3) else (ogb (m_X7_isHull v1) (fun q_70 => if q_70 = 0 then (some (-6)) else (ogi v1 6 (some (f_nameOf (Int32.toNatClampNeg v1)))))))) else (ogi v4 6 (if (f_nameOf (Int32.toNatClampNeg v4)) = (-6) then ((m_X1_detail_48 (m_X1_detail_7 f_nameOf f_port_worth fuel_7) f_nameOf f_port_worth v1 v2 v3 v4)) else (ogl (v2 + 1) (fun (v2_26 : Int32) => ogi v4 6 (ogb (m_X3_worthOf f_port_worth v4 (f_nameOf (Int32.toNatClampNeg v4))) (fun q_43 => ogl (v3 + q_43) (fun (v3_47 : Int32) => (m_X1_detail_48 (m_X1_detail_7 f_nameOf f_port_worth fuel_7) f_nameOf f_port_worth v1 v2_26 v3_47 v4)))))))) : Option Int32) = some res := h
      refine ww_iload B dX1_detail_7 4 rfl ?_
      refine ww_bipush B dX1_detail_9 (v := 6) (by decide) ?_
      refine ww_icmp_ge B 54 dX1_detail_11 (by decide) (fun c_11 => ?_) (fun c_11 => ?_)
      · replace h := og_t c_11 h
        refine ww_iload_n B dX1_detail_54 1 rfl ?_
        refine ww_bipush B dX1_detail_55 (v := (-2)) (by decide) ?_
        refine ww_icmp_ne B 62 dX1_detail_57 (by decide) (fun c_57 => ?_) (fun c_57 => ?_)
        · replace h := og_f c_57 h
          refine ww_iload_n B dX1_detail_62 1 rfl ?_
          refine ww_iconst B dX1_detail_63 (v := (-1)) (by decide) ?_
          refine ww_icmp_ne B 69 dX1_detail_64 (by decide) (fun c_64 => ?_) (fun c_64 => ?_)
          · replace h := og_f c_64 h
            refine ww_iload_n B dX1_detail_69 1 rfl ?_
            obtain ⟨q_70, hq_70, h⟩ := og_b h
            refine ww_ci0 B (k' := 0) (n' := 0) rfl rfl [] [0, 1, 2, 3] (wr := [(a_t, .inr (1, [.ref a_port, .ref b_choice, .ref b_left, .ref a_nameOf, .ref b_hullOf, .ref b_best])), (a_port, .inr (3, [.ref b_port_may, .ref b_port_voyage, .ref b_port_luck, .ref b_port_rank, .ref a_port_worth])), (a_nameOf, .inl (cI, 6, .inl f_nameOf)), (a_port_worth, .inl (cI, 30, .inl f_port_worth))]) (st := []) rfl rfl (by decide) (rr_SN B (c_X7_isHull l D cI cZ v1 hq_70) gX1_detail_X7_isHull_n56 rfl rfl rfl (by decide +kernel) (by decide +kernel) (by decide +kernel) (N := 1) rfl (by decide +kernel) ⟨Nat.le_of_ble_eq_true rfl, Nat.le_of_ble_eq_true rfl⟩ rfl dX1_detail_70 (Nat.le_of_ble_eq_true rfl) ⟨Nat.le_of_ble_eq_true rfl, Nat.le_of_ble_eq_true rfl⟩) (ws' := [(a_t, .inr (1, [.ref a_port, .ref b_choice, .ref b_left, .ref a_nameOf, .ref b_hullOf, .ref b_best])), (a_port, .inr (3, [.ref b_port_may, .ref b_port_voyage, .ref b_port_luck, .ref b_port_rank, .ref a_port_worth])), (a_nameOf, .inl (cI, 6, .inl f_nameOf)), (a_port_worth, .inl (cI, 30, .inl f_port_worth))]) rfl ?_
            refine ww_if_eq B 85 dX1_detail_73 (by decide) (fun c_73 => ?_) (fun c_73 => ?_)
            · replace h := og_t c_73 h
              refine ww_bipush B dX1_detail_85 (v := (-6)) (by decide) ?_
              exact ww_iret B hA hQ hr dX1_detail_87 () [0, 1, 2, 3] rfl (by decide) (og_s h).symm
            · replace h := og_f c_73 h
              refine ww_aload_n B dX1_detail_76 0 rfl ?_
              refine ww_get (ci := 1) (T := TX1) (C := RX1) (N := 6) B iX1 0 rfl rfl 3 (by decide) (by decide +kernel) rfl rfl dX1_detail_77 ?_
              refine ww_iload_n B dX1_detail_80 1 rfl ?_
              obtain ⟨i_81, h⟩ := og_i h
              refine ww_iald B 2 rfl i_81 dX1_detail_81 ?_
              refine ww_goto B 87 dX1_detail_82 (by decide) ?_
              exact ww_iret B hA hQ hr dX1_detail_87 () [0, 1, 2, 3] rfl (by decide) (og_s h).symm
          · replace h := og_t c_64 h
            refine ww_iload_n B dX1_detail_67 3 rfl ?_
            exact ww_iret B hA hQ hr dX1_detail_68 () [0, 1, 2, 3] rfl (by decide) (og_s h).symm
        · replace h := og_t c_57 h
          refine ww_iload_n B dX1_detail_60 2 rfl ?_
          exact ww_iret B hA hQ hr dX1_detail_61 () [0, 1, 2, 3] rfl (by decide) (og_s h).symm
      · replace h := og_f c_11 h
        refine ww_aload_n B dX1_detail_14 0 rfl ?_
        refine ww_get (ci := 1) (T := TX1) (C := RX1) (N := 6) B iX1 0 rfl rfl 3 (by decide) (by decide +kernel) rfl rfl dX1_detail_15 ?_
        refine ww_iload B dX1_detail_18 4 rfl ?_
        obtain ⟨i_20, h⟩ := og_i h
        refine ww_iald B 2 rfl i_20 dX1_detail_20 ?_
        refine ww_bipush B dX1_detail_21 (v := (-6)) (by decide) ?_
        refine ww_icmp_eq B 48 dX1_detail_23 (by decide) (fun c_23 => ?_) (fun c_23 => ?_)
        · replace h := og_t c_23 h
          exact cut_48 _ _ _ _ h
        · replace h := og_f c_23 h
          obtain ⟨v2_26, ev2_26⟩ : ∃ y : Int32, y = (v2 + 1) := ⟨_, rfl⟩
          refine ww_iinc B dX1_detail_26 2 rfl (v := v2_26) (by rw [ev2_26]; rfl) (by decide) (lv' := [(2, .int v2_26), (0, .ref a_t), (1, .int v1), (3, .int v3), (4, .int v4)]) rfl ?_
          replace h := og_l ev2_26 h
          refine ww_iload_n B dX1_detail_29 3 rfl ?_
          refine ww_aload_n B dX1_detail_30 1 rfl ?_
          refine ww_get (ci := 1) (T := TX1) (C := RX1) (N := 6) B iX1 0 rfl rfl 0 (by decide) (by decide +kernel) rfl rfl dX1_detail_31 ?_
          refine ww_iload B dX1_detail_34 4 rfl ?_
          refine ww_aload_n B dX1_detail_36 1 rfl ?_
          refine ww_get (ci := 1) (T := TX1) (C := RX1) (N := 6) B iX1 0 rfl rfl 3 (by decide) (by decide +kernel) rfl rfl dX1_detail_37 ?_
          refine ww_iload B dX1_detail_40 4 rfl ?_
          obtain ⟨i_42, h⟩ := og_i h
          refine ww_iald B 2 rfl i_42 dX1_detail_42 ?_
          obtain ⟨q_43, hq_43, h⟩ := og_b h
          refine ww_ci0 B (k' := 0) (n' := 0) rfl rfl [1, 3] [0, 2] (wr := [(a_t, .inr (1, [.ref a_port, .ref b_choice, .ref b_left, .ref a_nameOf, .ref b_hullOf, .ref b_best])), (a_nameOf, .inl (cI, 6, .inl f_nameOf))]) (st := [.int v3]) rfl rfl (by decide) (rr_V B (c_X3_worthOf l D cI cZ a_port a_port_worth b_port_may b_port_voyage b_port_luck b_port_rank f_port_worth v4 (f_nameOf (Int32.toNatClampNeg v4)) hq_43) gX1_detail_X3_worthOf rfl rfl rfl (N := 2) rfl (by decide +kernel) ⟨Nat.le_of_ble_eq_true rfl, Nat.le_of_ble_eq_true rfl⟩ rfl dX1_detail_43 0 rfl rfl (Nat.le_of_ble_eq_true rfl) ⟨Nat.le_of_ble_eq_true rfl, Nat.le_of_ble_eq_true rfl⟩) (ws' := [(a_t, .inr (1, [.ref a_port, .ref b_choice, .ref b_left, .ref a_nameOf, .ref b_hullOf, .ref b_best])), (a_nameOf, .inl (cI, 6, .inl f_nameOf)), (a_port, .inr (3, [.ref b_port_may, .ref b_port_voyage, .ref b_port_luck, .ref b_port_rank, .ref a_port_worth])), (a_port_worth, .inl (cI, 30, .inl f_port_worth))]) rfl ?_
          refine ww_iadd B dX1_detail_46 ?_
          refine ww_topi (fun v3_47 ev3_47 => ?_)
          replace h := og_l ev3_47 h
          refine ww_istore_n B dX1_detail_47 (lv' := [(3, .int v3_47), (2, .int v2_26), (0, .ref a_t), (1, .int v1), (4, .int v4)]) (by decide) rfl ?_
          refine ww_sub (ws' := [(a_t, .inr (1, [.ref a_port, .ref b_choice, .ref b_left, .ref a_nameOf, .ref b_hullOf, .ref b_best])), (a_port, .inr (3, [.ref b_port_may, .ref b_port_voyage, .ref b_port_luck, .ref b_port_rank, .ref a_port_worth])), (a_nameOf, .inl (cI, 6, .inl f_nameOf)), (a_port_worth, .inl (cI, 30, .inl f_port_worth))]) [0, 2, 1, 3] rfl (by decide) ?_
          refine ww_lsel (lv' := [(0, .ref a_t), (1, .int v1), (2, .int v2_26), (3, .int v3_47), (4, .int v4)]) [2, 3, 1, 0, 4] rfl ?_
          exact cut_48 _ _ _ _ h
  refine ww_iconst B dX1_detail_0 (v := 0) (by decide) ?_
  refine ww_istore_n B dX1_detail_1 (lv' := [(2, .int 0), (0, .ref a_t), (1, .int v1)]) (by decide) rfl ?_
  refine ww_iconst B dX1_detail_2 (v := 0) (by decide) ?_
  refine ww_istore_n B dX1_detail_3 (lv' := [(3, .int 0), (2, .int 0), (0, .ref a_t), (1, .int v1)]) (by decide) rfl ?_
  refine ww_iconst B dX1_detail_4 (v := 0) (by decide) ?_
  refine ww_istore B dX1_detail_5 (lv' := [(4, .int 0), (3, .int 0), (2, .int 0), (0, .ref a_t), (1, .int v1)]) (by decide) rfl ?_
  refine ww_lsel (lv' := [(0, .ref a_t), (1, .int v1), (2, .int 0), (3, .int 0), (4, .int 0)]) [3, 4, 2, 1, 0] rfl ?_
  exact cut_7 _ _ _ _ _ h
noncomputable def m_X1_hullPrefers (f_port_worth : (Nat → Int32)) (v1 : Int32) (v2 : Int32) (v3 : Int32) : Option Int32 := if v3 = (-6) then (some 1) else (ogb (m_X3_worthOf f_port_worth v1 v2) (fun q_14 => ogb (m_X3_worthOf f_port_worth v1 v3) (fun q_23 => ogl (q_14 - q_23) (fun (v4_27 : Int32) => if 0 < v4_27 then (some 1) else (if v4_27 = 0 then (if v3 ≤ v2 then (some 0) else (some 1)) else (some 0))))))
set_option maxHeartbeats 4000000 in
set_option maxRecDepth 100000 in
theorem c_X1_hullPrefers (l : Launch) (D : va_G) (cI cZ : ClassId) (a_t a_port a_port_worth b_choice b_left b_nameOf b_hullOf b_best b_port_may b_port_voyage b_port_luck b_port_rank : Nat) (f_port_worth : (Nat → Int32)) (v1 : Int32) (v2 : Int32) (v3 : Int32) {res : Int32} (h : m_X1_hullPrefers f_port_worth v1 v2 v3 = some res) : CT l yX1_hullPrefers wsX1_hullPrefers ({ frames := 2, cells := 0, slots := 0, locals := 42 } : Room) D cI cZ [.ref a_t, .int v1, .int v2, .int v3] [(a_t, .inr (1, [.ref a_port, .ref b_choice, .ref b_left, .ref b_nameOf, .ref b_hullOf, .ref b_best])), (a_port, .inr (3, [.ref b_port_may, .ref b_port_voyage, .ref b_port_luck, .ref b_port_rank, .ref a_port_worth])), (a_port_worth, .inl (cI, 30, .inl f_port_worth))] (QI D [(a_t, .inr (1, [.ref a_port, .ref b_choice, .ref b_left, .ref b_nameOf, .ref b_hullOf, .ref b_best])), (a_port, .inr (3, [.ref b_port_may, .ref b_port_voyage, .ref b_port_luck, .ref b_port_rank, .ref a_port_worth])), (a_port_worth, .inl (cI, 30, .inl f_port_worth))] (fun (r : Int32) (_ : Unit) => r = res) (fun (u : Unit) => [(a_t, .inr (1, [.ref a_port, .ref b_choice, .ref b_left, .ref b_nameOf, .ref b_hullOf, .ref b_best])), (a_port, .inr (3, [.ref b_port_may, .ref b_port_voyage, .ref b_port_luck, .ref b_port_rank, .ref a_port_worth])), (a_port_worth, .inl (cI, 30, .inl f_port_worth))])) 0 0 := by
  have h : (if v3 = (-6) then (some 1) else (ogb (m_X3_worthOf f_port_worth v1 v2) (fun q_14 => ogb (m_X3_worthOf f_port_worth v1 v3) (fun q_23 => ogl (q_14 - q_23) (fun (v4_27 : Int32) => if 0 < v4_27 then (some 1) else (if v4_27 = 0 then (if v3 ≤ v2 then (some 0) else (some 1)) else (some 0)))))) : Option Int32) = some res := h
  refine ct_entry (cc := cX1_hullPrefers) (nl := 5) (ret := (some .boolean)) (own := RX1) (lv0 := [(0, .ref a_t), (1, .int v1), (2, .int v2), (3, .int v3)]) (by decide) rfl rfl (Nat.le_of_ble_eq_true rfl) rfl ?_
  intro p e s m args below meth c A Q hA hQ hr hnm B
  have iX1 : ∀ w ∈ wsX10, w ∈ wsX1_hullPrefers := by decide +kernel
  refine ww_iload_n B dX1_hullPrefers_0 3 rfl ?_
  refine ww_bipush B dX1_hullPrefers_1 (v := (-6)) (by decide) ?_
  refine ww_icmp_ne B 8 dX1_hullPrefers_3 (by decide) (fun c_3 => ?_) (fun c_3 => ?_)
  · replace h := og_f c_3 h
    refine ww_aload_n B dX1_hullPrefers_8 0 rfl ?_
    refine ww_get (ci := 1) (T := TX1) (C := RX1) (N := 6) B iX1 0 rfl rfl 0 (by decide) (by decide +kernel) rfl rfl dX1_hullPrefers_9 ?_
    refine ww_iload_n B dX1_hullPrefers_12 1 rfl ?_
    refine ww_iload_n B dX1_hullPrefers_13 2 rfl ?_
    obtain ⟨q_14, hq_14, h⟩ := og_b h
    refine ww_ci0 B (k' := 0) (n' := 0) rfl rfl [1, 2] [0] (wr := [(a_t, .inr (1, [.ref a_port, .ref b_choice, .ref b_left, .ref b_nameOf, .ref b_hullOf, .ref b_best]))]) (st := []) rfl rfl (by decide) (rr_V B (c_X3_worthOf l D cI cZ a_port a_port_worth b_port_may b_port_voyage b_port_luck b_port_rank f_port_worth v1 v2 hq_14) gX1_hullPrefers_X3_worthOf rfl rfl rfl (N := 2) rfl (by decide +kernel) ⟨Nat.le_of_ble_eq_true rfl, Nat.le_of_ble_eq_true rfl⟩ rfl dX1_hullPrefers_14 0 rfl rfl (Nat.le_of_ble_eq_true rfl) ⟨Nat.le_of_ble_eq_true rfl, Nat.le_of_ble_eq_true rfl⟩) (ws' := [(a_t, .inr (1, [.ref a_port, .ref b_choice, .ref b_left, .ref b_nameOf, .ref b_hullOf, .ref b_best])), (a_port, .inr (3, [.ref b_port_may, .ref b_port_voyage, .ref b_port_luck, .ref b_port_rank, .ref a_port_worth])), (a_port_worth, .inl (cI, 30, .inl f_port_worth))]) rfl ?_
    refine ww_aload_n B dX1_hullPrefers_17 0 rfl ?_
    refine ww_get (ci := 1) (T := TX1) (C := RX1) (N := 6) B iX1 0 rfl rfl 0 (by decide) (by decide +kernel) rfl rfl dX1_hullPrefers_18 ?_
    refine ww_iload_n B dX1_hullPrefers_21 1 rfl ?_
    refine ww_iload_n B dX1_hullPrefers_22 3 rfl ?_
    obtain ⟨q_23, hq_23, h⟩ := og_b h
    refine ww_ci0 B (k' := 0) (n' := 0) rfl rfl [1, 2] [0] (wr := [(a_t, .inr (1, [.ref a_port, .ref b_choice, .ref b_left, .ref b_nameOf, .ref b_hullOf, .ref b_best]))]) (st := [.int q_14]) rfl rfl (by decide) (rr_V B (c_X3_worthOf l D cI cZ a_port a_port_worth b_port_may b_port_voyage b_port_luck b_port_rank f_port_worth v1 v3 hq_23) gX1_hullPrefers_X3_worthOf rfl rfl rfl (N := 2) rfl (by decide +kernel) ⟨Nat.le_of_ble_eq_true rfl, Nat.le_of_ble_eq_true rfl⟩ rfl dX1_hullPrefers_23 0 rfl rfl (Nat.le_of_ble_eq_true rfl) ⟨Nat.le_of_ble_eq_true rfl, Nat.le_of_ble_eq_true rfl⟩) (ws' := [(a_t, .inr (1, [.ref a_port, .ref b_choice, .ref b_left, .ref b_nameOf, .ref b_hullOf, .ref b_best])), (a_port, .inr (3, [.ref b_port_may, .ref b_port_voyage, .ref b_port_luck, .ref b_port_rank, .ref a_port_worth])), (a_port_worth, .inl (cI, 30, .inl f_port_worth))]) rfl ?_
    refine ww_isub B dX1_hullPrefers_26 ?_
    refine ww_topi (fun v4_27 ev4_27 => ?_)
    replace h := og_l ev4_27 h
    refine ww_istore B dX1_hullPrefers_27 (lv' := [(4, .int v4_27), (0, .ref a_t), (1, .int v1), (2, .int v2), (3, .int v3)]) (by decide) rfl ?_
    refine ww_iload B dX1_hullPrefers_29 0 rfl ?_
    refine ww_if_gt B 44 dX1_hullPrefers_31 (by decide) (fun c_31 => ?_) (fun c_31 => ?_)
    · replace h := og_t c_31 h
      refine ww_iconst B dX1_hullPrefers_44 (v := 1) (by decide) ?_
      refine ww_goto B 49 dX1_hullPrefers_45 (by decide) ?_
      exact ww_zret B hA hQ hr (Or.inr rfl) dX1_hullPrefers_49 () [0, 1, 2] rfl (by decide) (og_s h).symm
    · replace h := og_f c_31 h
      refine ww_iload B dX1_hullPrefers_34 0 rfl ?_
      refine ww_if_ne B 48 dX1_hullPrefers_36 (by decide) (fun c_36 => ?_) (fun c_36 => ?_)
      · replace h := og_f c_36 h
        refine ww_iconst B dX1_hullPrefers_48 (v := 0) (by decide) ?_
        exact ww_zret B hA hQ hr (Or.inl rfl) dX1_hullPrefers_49 () [0, 1, 2] rfl (by decide) (og_s h).symm
      · replace h := og_t c_36 h
        refine ww_iload_n B dX1_hullPrefers_39 3 rfl ?_
        refine ww_iload_n B dX1_hullPrefers_40 4 rfl ?_
        refine ww_icmp_ge B 48 dX1_hullPrefers_41 (by decide) (fun c_41 => ?_) (fun c_41 => ?_)
        · replace h := og_t c_41 h
          refine ww_iconst B dX1_hullPrefers_48 (v := 0) (by decide) ?_
          exact ww_zret B hA hQ hr (Or.inl rfl) dX1_hullPrefers_49 () [0, 1, 2] rfl (by decide) (og_s h).symm
        · replace h := og_f c_41 h
          refine ww_iconst B dX1_hullPrefers_44 (v := 1) (by decide) ?_
          refine ww_goto B 49 dX1_hullPrefers_45 (by decide) ?_
          exact ww_zret B hA hQ hr (Or.inr rfl) dX1_hullPrefers_49 () [0, 1, 2] rfl (by decide) (og_s h).symm
  · replace h := og_t c_3 h
    refine ww_iconst B dX1_hullPrefers_6 (v := 1) (by decide) ?_
    exact ww_zret B hA hQ hr (Or.inr rfl) dX1_hullPrefers_7 () [0, 1, 2] rfl (by decide) (og_s h).symm
noncomputable def m_X1_favourite_37 (k5 : Int32 → Int32 → Int32 → Option Int32) (f_left : (Nat → Int32)) (f_port_worth : (Nat → Int32)) (v1 : Int32) (v2 : Int32) (v3 : Int32) : Option Int32 := ogl (v3 + 1) (fun (v3_37 : Int32) => (k5 v1 v2 v3_37))
noncomputable def m_X1_favourite_5b (k5 : Int32 → Int32 → Int32 → Option Int32) (f_left : (Nat → Int32)) (f_port_worth : (Nat → Int32)) (v1 : Int32) (v2 : Int32) (v3 : Int32) : Option Int32 := if 5 ≤ v3 then (some v2) else (ogb (m_X7_at 6 f_left v1) (fun q_15 => ogb (m_X7_hasBit q_15 v3) (fun q_19 => if q_19 = 0 then ((m_X1_favourite_37 k5 f_left f_port_worth v1 v2 v3)) else (ogb (m_X1_hullPrefers f_port_worth v1 v3 v2) (fun q_29 => if q_29 = 0 then ((m_X1_favourite_37 k5 f_left f_port_worth v1 v2 v3)) else ((m_X1_favourite_37 k5 f_left f_port_worth v1 v3 v3)))))))
noncomputable def m_X1_favourite_5 (f_left : (Nat → Int32)) (f_port_worth : (Nat → Int32)) (fuel : Nat) : Int32 → Int32 → Int32 → Option Int32 := Nat.rec (fun _ _ _ => none) (fun _ k5 => m_X1_favourite_5b k5 f_left f_port_worth) fuel
noncomputable def m_X1_favourite (f_left : (Nat → Int32)) (f_port_worth : (Nat → Int32)) (v1 : Int32) : Option Int32 := (m_X1_favourite_5 f_left f_port_worth 1000000 v1 (-6) 0)
set_option maxHeartbeats 4000000 in
set_option maxRecDepth 100000 in
theorem c_X1_favourite (l : Launch) (D : va_G) (cI cZ : ClassId) (a_t a_port a_left a_port_worth b_choice b_nameOf b_hullOf b_best b_port_may b_port_voyage b_port_luck b_port_rank : Nat) (f_left : (Nat → Int32)) (f_port_worth : (Nat → Int32)) (v1 : Int32) {res : Int32} (h : m_X1_favourite f_left f_port_worth v1 = some res) : CT l yX1_favourite wsX1_favourite ({ frames := 3, cells := 0, slots := 0, locals := 66 } : Room) D cI cZ [.ref a_t, .int v1] [(a_t, .inr (1, [.ref a_port, .ref b_choice, .ref a_left, .ref b_nameOf, .ref b_hullOf, .ref b_best])), (a_port, .inr (3, [.ref b_port_may, .ref b_port_voyage, .ref b_port_luck, .ref b_port_rank, .ref a_port_worth])), (a_left, .inl (cI, 6, .inl f_left)), (a_port_worth, .inl (cI, 30, .inl f_port_worth))] (QI D [(a_t, .inr (1, [.ref a_port, .ref b_choice, .ref a_left, .ref b_nameOf, .ref b_hullOf, .ref b_best])), (a_port, .inr (3, [.ref b_port_may, .ref b_port_voyage, .ref b_port_luck, .ref b_port_rank, .ref a_port_worth])), (a_left, .inl (cI, 6, .inl f_left)), (a_port_worth, .inl (cI, 30, .inl f_port_worth))] (fun (r : Int32) (_ : Unit) => r = res) (fun (u : Unit) => [(a_t, .inr (1, [.ref a_port, .ref b_choice, .ref a_left, .ref b_nameOf, .ref b_hullOf, .ref b_best])), (a_port, .inr (3, [.ref b_port_may, .ref b_port_voyage, .ref b_port_luck, .ref b_port_rank, .ref a_port_worth])), (a_left, .inl (cI, 6, .inl f_left)), (a_port_worth, .inl (cI, 30, .inl f_port_worth))])) 0 0 := by
  have h : ((m_X1_favourite_5 f_left f_port_worth 1000000 v1 (-6) 0) : Option Int32) = some res := h
  refine ct_entry (cc := cX1_favourite) (nl := 4) (ret := (some .int)) (own := RX1) (lv0 := [(0, .ref a_t), (1, .int v1)]) (by decide) rfl rfl (Nat.le_of_ble_eq_true rfl) rfl ?_
  intro p e s m args below meth c A Q hA hQ hr hnm B
  have iX1 : ∀ w ∈ wsX10, w ∈ wsX1_favourite := by decide +kernel
  have cut_5 : ∀ (fuel : Nat) (v1 : Int32) (v2 : Int32) (v3 : Int32), m_X1_favourite_5 f_left f_port_worth fuel v1 v2 v3 = some res → WW p l e (headSpec wsX1_favourite ({ frames := 3, cells := 0, slots := 0, locals := 66 } : Room)).room s m args below meth c D A 4 0 0 Q [(a_t, .inr (1, [.ref a_port, .ref b_choice, .ref a_left, .ref b_nameOf, .ref b_hullOf, .ref b_best])), (a_port, .inr (3, [.ref b_port_may, .ref b_port_voyage, .ref b_port_luck, .ref b_port_rank, .ref a_port_worth])), (a_left, .inl (cI, 6, .inl f_left)), (a_port_worth, .inl (cI, 30, .inl f_port_worth))] [(0, .ref a_t), (1, .int v1), (2, .int v2), (3, .int v3)] [] 5 := by
    intro fuel_5
    induction fuel_5 with
    | zero => intro v1 v2 v3 h; exact og_0 h
    | succ fuel_5 ih_5 =>
      have cut_37 : ∀ (v1 : Int32) (v2 : Int32) (v3 : Int32), m_X1_favourite_37 (m_X1_favourite_5 f_left f_port_worth fuel_5) f_left f_port_worth v1 v2 v3 = some res → WW p l e (headSpec wsX1_favourite ({ frames := 3, cells := 0, slots := 0, locals := 66 } : Room)).room s m args below meth c D A 4 0 0 Q [(a_t, .inr (1, [.ref a_port, .ref b_choice, .ref a_left, .ref b_nameOf, .ref b_hullOf, .ref b_best])), (a_port, .inr (3, [.ref b_port_may, .ref b_port_voyage, .ref b_port_luck, .ref b_port_rank, .ref a_port_worth])), (a_left, .inl (cI, 6, .inl f_left)), (a_port_worth, .inl (cI, 30, .inl f_port_worth))] [(0, .ref a_t), (1, .int v1), (2, .int v2), (3, .int v3)] [] 37 := by
        intro v1 v2 v3 h
        replace h : (ogl (v3 + 1) (fun (v3_37 : Int32) => ((m_X1_favourite_5 f_left f_port_worth fuel_5) v1 v2 v3_37)) : Option Int32) = some res := h
        obtain ⟨v3_37, ev3_37⟩ : ∃ y : Int32, y = (v3 + 1) := ⟨_, rfl⟩
        refine ww_iinc B dX1_favourite_37 3 rfl (v := v3_37) (by rw [ev3_37]; rfl) (by decide) (lv' := [(3, .int v3_37), (0, .ref a_t), (1, .int v1), (2, .int v2)]) rfl ?_
        replace h := og_l ev3_37 h
        refine ww_goto B 5 dX1_favourite_40 (by decide) ?_
        refine ww_lsel (lv' := [(0, .ref a_t), (1, .int v1), (2, .int v2), (3, .int v3_37)]) [1, 2, 3, 0] rfl ?_
        exact ih_5 _ _ _ h
      intro v1 v2 v3 h
      replace h : (if 5 ≤ v3 then (some v2) else (ogb (m_X7_at 6 f_left v1) (fun q_15 => ogb (m_X7_hasBit q_15 v3) (fun q_19 => if q_19 = 0 then ((m_X1_favourite_37 (m_X1_favourite_5 f_left f_port_worth fuel_5) f_left f_port_worth v1 v2 v3)) else (ogb (m_X1_hullPrefers f_port_worth v1 v3 v2) (fun q_29 => if q_29 = 0 then ((m_X1_favourite_37 (m_X1_favourite_5 f_left f_port_worth fuel_5) f_left f_port_worth v1 v2 v3)) else ((m_X1_favourite_37 (m_X1_favourite_5 f_left f_port_worth fuel_5) f_left f_port_worth v1 v3 v3))))))) : Option Int32) = some res := h
      refine ww_iload_n B dX1_favourite_5 3 rfl ?_
      refine ww_iconst B dX1_favourite_6 (v := 5) (by decide) ?_
      refine ww_icmp_ge B 43 dX1_favourite_7 (by decide) (fun c_7 => ?_) (fun c_7 => ?_)
      · replace h := og_t c_7 h
        refine ww_iload_n B dX1_favourite_43 2 rfl ?_
        exact ww_iret B hA hQ hr dX1_favourite_44 () [0, 1, 2, 3] rfl (by decide) (og_s h).symm
      · replace h := og_f c_7 h
        refine ww_aload_n B dX1_favourite_10 0 rfl ?_
        refine ww_get (ci := 1) (T := TX1) (C := RX1) (N := 6) B iX1 0 rfl rfl 2 (by decide) (by decide +kernel) rfl rfl dX1_favourite_11 ?_
        refine ww_iload_n B dX1_favourite_14 1 rfl ?_
        obtain ⟨q_15, hq_15, h⟩ := og_b h
        refine ww_ci0 B (k' := 0) (n' := 0) rfl rfl [2] [0, 1, 3] (wr := [(a_t, .inr (1, [.ref a_port, .ref b_choice, .ref a_left, .ref b_nameOf, .ref b_hullOf, .ref b_best])), (a_port, .inr (3, [.ref b_port_may, .ref b_port_voyage, .ref b_port_luck, .ref b_port_rank, .ref a_port_worth])), (a_port_worth, .inl (cI, 30, .inl f_port_worth))]) (st := []) rfl rfl (by decide) (rr_SN B (c_X7_at l D cI cZ a_left 6 f_left v1 hq_15) gX1_favourite_X7_at_n40 rfl rfl rfl (by decide +kernel) (by decide +kernel) (by decide +kernel) (N := 2) rfl (by decide +kernel) ⟨Nat.le_of_ble_eq_true rfl, Nat.le_of_ble_eq_true rfl⟩ rfl dX1_favourite_15 (Nat.le_of_ble_eq_true rfl) ⟨Nat.le_of_ble_eq_true rfl, Nat.le_of_ble_eq_true rfl⟩) (ws' := [(a_t, .inr (1, [.ref a_port, .ref b_choice, .ref a_left, .ref b_nameOf, .ref b_hullOf, .ref b_best])), (a_port, .inr (3, [.ref b_port_may, .ref b_port_voyage, .ref b_port_luck, .ref b_port_rank, .ref a_port_worth])), (a_port_worth, .inl (cI, 30, .inl f_port_worth)), (a_left, .inl (cI, 6, .inl f_left))]) rfl ?_
        refine ww_iload_n B dX1_favourite_18 3 rfl ?_
        obtain ⟨q_19, hq_19, h⟩ := og_b h
        refine ww_ci0 B (k' := 0) (n' := 0) rfl rfl [] [0, 1, 2, 3] (wr := [(a_t, .inr (1, [.ref a_port, .ref b_choice, .ref a_left, .ref b_nameOf, .ref b_hullOf, .ref b_best])), (a_port, .inr (3, [.ref b_port_may, .ref b_port_voyage, .ref b_port_luck, .ref b_port_rank, .ref a_port_worth])), (a_port_worth, .inl (cI, 30, .inl f_port_worth)), (a_left, .inl (cI, 6, .inl f_left))]) (st := []) rfl rfl (by decide) (rr_SN B (c_X7_hasBit l D cI cZ q_15 v3 hq_19) gX1_favourite_X7_hasBit_n31 rfl rfl rfl (by decide +kernel) (by decide +kernel) (by decide +kernel) (N := 2) rfl (by decide +kernel) ⟨Nat.le_of_ble_eq_true rfl, Nat.le_of_ble_eq_true rfl⟩ rfl dX1_favourite_19 (Nat.le_of_ble_eq_true rfl) ⟨Nat.le_of_ble_eq_true rfl, Nat.le_of_ble_eq_true rfl⟩) (ws' := [(a_t, .inr (1, [.ref a_port, .ref b_choice, .ref a_left, .ref b_nameOf, .ref b_hullOf, .ref b_best])), (a_port, .inr (3, [.ref b_port_may, .ref b_port_voyage, .ref b_port_luck, .ref b_port_rank, .ref a_port_worth])), (a_port_worth, .inl (cI, 30, .inl f_port_worth)), (a_left, .inl (cI, 6, .inl f_left))]) rfl ?_
        refine ww_if_eq B 37 dX1_favourite_22 (by decide) (fun c_22 => ?_) (fun c_22 => ?_)
        · replace h := og_t c_22 h
          refine ww_sub (ws' := [(a_t, .inr (1, [.ref a_port, .ref b_choice, .ref a_left, .ref b_nameOf, .ref b_hullOf, .ref b_best])), (a_port, .inr (3, [.ref b_port_may, .ref b_port_voyage, .ref b_port_luck, .ref b_port_rank, .ref a_port_worth])), (a_left, .inl (cI, 6, .inl f_left)), (a_port_worth, .inl (cI, 30, .inl f_port_worth))]) [0, 1, 3, 2] rfl (by decide) ?_
          exact cut_37 _ _ _ h
        · replace h := og_f c_22 h
          refine ww_aload_n B dX1_favourite_25 0 rfl ?_
          refine ww_iload_n B dX1_favourite_26 1 rfl ?_
          refine ww_iload_n B dX1_favourite_27 3 rfl ?_
          refine ww_iload_n B dX1_favourite_28 2 rfl ?_
          obtain ⟨q_29, hq_29, h⟩ := og_b h
          refine ww_ci0 B (k' := 0) (n' := 0) rfl rfl [0, 1, 2] [3] (wr := [(a_left, .inl (cI, 6, .inl f_left))]) (st := []) rfl rfl (by decide) (rr_V B (c_X1_hullPrefers l D cI cZ a_t a_port a_port_worth b_choice a_left b_nameOf b_hullOf b_best b_port_may b_port_voyage b_port_luck b_port_rank f_port_worth v1 v3 v2 hq_29) gX1_favourite_X1_hullPrefers rfl rfl rfl (N := 3) rfl (by decide +kernel) ⟨Nat.le_of_ble_eq_true rfl, Nat.le_of_ble_eq_true rfl⟩ rfl dX1_favourite_29 0 rfl rfl (Nat.le_of_ble_eq_true rfl) ⟨Nat.le_of_ble_eq_true rfl, Nat.le_of_ble_eq_true rfl⟩) (ws' := [(a_left, .inl (cI, 6, .inl f_left)), (a_t, .inr (1, [.ref a_port, .ref b_choice, .ref a_left, .ref b_nameOf, .ref b_hullOf, .ref b_best])), (a_port, .inr (3, [.ref b_port_may, .ref b_port_voyage, .ref b_port_luck, .ref b_port_rank, .ref a_port_worth])), (a_port_worth, .inl (cI, 30, .inl f_port_worth))]) rfl ?_
          refine ww_if_eq B 37 dX1_favourite_32 (by decide) (fun c_32 => ?_) (fun c_32 => ?_)
          · replace h := og_t c_32 h
            refine ww_sub (ws' := [(a_t, .inr (1, [.ref a_port, .ref b_choice, .ref a_left, .ref b_nameOf, .ref b_hullOf, .ref b_best])), (a_port, .inr (3, [.ref b_port_may, .ref b_port_voyage, .ref b_port_luck, .ref b_port_rank, .ref a_port_worth])), (a_left, .inl (cI, 6, .inl f_left)), (a_port_worth, .inl (cI, 30, .inl f_port_worth))]) [1, 2, 0, 3] rfl (by decide) ?_
            exact cut_37 _ _ _ h
          · replace h := og_f c_32 h
            refine ww_iload_n B dX1_favourite_35 3 rfl ?_
            refine ww_istore_n B dX1_favourite_36 (lv' := [(2, .int v3), (0, .ref a_t), (1, .int v1), (3, .int v3)]) (by decide) rfl ?_
            refine ww_sub (ws' := [(a_t, .inr (1, [.ref a_port, .ref b_choice, .ref a_left, .ref b_nameOf, .ref b_hullOf, .ref b_best])), (a_port, .inr (3, [.ref b_port_may, .ref b_port_voyage, .ref b_port_luck, .ref b_port_rank, .ref a_port_worth])), (a_left, .inl (cI, 6, .inl f_left)), (a_port_worth, .inl (cI, 30, .inl f_port_worth))]) [1, 2, 0, 3] rfl (by decide) ?_
            refine ww_lsel (lv' := [(0, .ref a_t), (1, .int v1), (2, .int v3), (3, .int v3)]) [1, 2, 0, 3] rfl ?_
            exact cut_37 _ _ _ h
  refine ww_bipush B dX1_favourite_0 (v := (-6)) (by decide) ?_
  refine ww_istore_n B dX1_favourite_2 (lv' := [(2, .int (-6)), (0, .ref a_t), (1, .int v1)]) (by decide) rfl ?_
  refine ww_iconst B dX1_favourite_3 (v := 0) (by decide) ?_
  refine ww_istore_n B dX1_favourite_4 (lv' := [(3, .int 0), (2, .int (-6)), (0, .ref a_t), (1, .int v1)]) (by decide) rfl ?_
  refine ww_lsel (lv' := [(0, .ref a_t), (1, .int v1), (2, .int (-6)), (3, .int 0)]) [2, 3, 1, 0] rfl ?_
  exact cut_5 _ _ _ _ h
noncomputable def m_X1_firstOfBest_53 (k2 : Int32 → Int32 → Int32 → Option Int32) (f_best : (Nat → Int32)) (f_choice : (Nat → Int32)) (f_port_worth : (Nat → Int32)) (v1 : Int32) (v2 : Int32) (v3 : Int32) : Option Int32 := ogl (v3 + 1) (fun (v3_53 : Int32) => (k2 v1 v2 v3_53))
noncomputable def m_X1_firstOfBest_2b (k2 : Int32 → Int32 → Int32 → Option Int32) (f_best : (Nat → Int32)) (f_choice : (Nat → Int32)) (f_port_worth : (Nat → Int32)) (v1 : Int32) (v2 : Int32) (v3 : Int32) : Option Int32 := if 5 ≤ v3 then (some (-6)) else (ogb (m_X7_at 6 f_choice v1) (fun q_12 => ogb (m_X7_hasBit (q_12 &&& v2) v3) (fun q_18 => if q_18 = 0 then ((m_X1_firstOfBest_53 k2 f_best f_choice f_port_worth v1 v2 v3)) else (ogb (m_X1_gain f_best f_port_worth v1 v3 v2) (fun q_32 => ogb (m_X7_at 224 f_best ((v1 * 32) + v2)) (fun q_45 => if q_32 = q_45 then (some v3) else ((m_X1_firstOfBest_53 k2 f_best f_choice f_port_worth v1 v2 v3))))))))
noncomputable def m_X1_firstOfBest_2 (f_best : (Nat → Int32)) (f_choice : (Nat → Int32)) (f_port_worth : (Nat → Int32)) (fuel : Nat) : Int32 → Int32 → Int32 → Option Int32 := Nat.rec (fun _ _ _ => none) (fun _ k2 => m_X1_firstOfBest_2b k2 f_best f_choice f_port_worth) fuel
noncomputable def m_X1_firstOfBest (f_best : (Nat → Int32)) (f_choice : (Nat → Int32)) (f_port_worth : (Nat → Int32)) (v1 : Int32) (v2 : Int32) : Option Int32 := (m_X1_firstOfBest_2 f_best f_choice f_port_worth 1000000 v1 v2 0)
set_option maxHeartbeats 4000000 in
set_option maxRecDepth 100000 in
theorem c_X1_firstOfBest (l : Launch) (D : va_G) (cI cZ : ClassId) (a_t a_port a_best a_choice a_port_worth b_left b_nameOf b_hullOf b_port_may b_port_voyage b_port_luck b_port_rank : Nat) (f_best : (Nat → Int32)) (f_choice : (Nat → Int32)) (f_port_worth : (Nat → Int32)) (v1 : Int32) (v2 : Int32) {res : Int32} (h : m_X1_firstOfBest f_best f_choice f_port_worth v1 v2 = some res) : CT l yX1_firstOfBest wsX1_firstOfBest ({ frames := 3, cells := 0, slots := 0, locals := 65 } : Room) D cI cZ [.ref a_t, .int v1, .int v2] [(a_t, .inr (1, [.ref a_port, .ref a_choice, .ref b_left, .ref b_nameOf, .ref b_hullOf, .ref a_best])), (a_port, .inr (3, [.ref b_port_may, .ref b_port_voyage, .ref b_port_luck, .ref b_port_rank, .ref a_port_worth])), (a_best, .inl (cI, 224, .inl f_best)), (a_choice, .inl (cI, 6, .inl f_choice)), (a_port_worth, .inl (cI, 30, .inl f_port_worth))] (QI D [(a_t, .inr (1, [.ref a_port, .ref a_choice, .ref b_left, .ref b_nameOf, .ref b_hullOf, .ref a_best])), (a_port, .inr (3, [.ref b_port_may, .ref b_port_voyage, .ref b_port_luck, .ref b_port_rank, .ref a_port_worth])), (a_best, .inl (cI, 224, .inl f_best)), (a_choice, .inl (cI, 6, .inl f_choice)), (a_port_worth, .inl (cI, 30, .inl f_port_worth))] (fun (r : Int32) (_ : Unit) => r = res) (fun (u : Unit) => [(a_t, .inr (1, [.ref a_port, .ref a_choice, .ref b_left, .ref b_nameOf, .ref b_hullOf, .ref a_best])), (a_port, .inr (3, [.ref b_port_may, .ref b_port_voyage, .ref b_port_luck, .ref b_port_rank, .ref a_port_worth])), (a_best, .inl (cI, 224, .inl f_best)), (a_choice, .inl (cI, 6, .inl f_choice)), (a_port_worth, .inl (cI, 30, .inl f_port_worth))])) 0 0 := by
  have h : ((m_X1_firstOfBest_2 f_best f_choice f_port_worth 1000000 v1 v2 0) : Option Int32) = some res := h
  refine ct_entry (cc := cX1_firstOfBest) (nl := 5) (ret := (some .int)) (own := RX1) (lv0 := [(0, .ref a_t), (1, .int v1), (2, .int v2)]) (by decide) rfl rfl (Nat.le_of_ble_eq_true rfl) rfl ?_
  intro p e s m args below meth c A Q hA hQ hr hnm B
  have iX1 : ∀ w ∈ wsX10, w ∈ wsX1_firstOfBest := by decide +kernel
  have cut_2 : ∀ (fuel : Nat) (v1 : Int32) (v2 : Int32) (v3 : Int32), m_X1_firstOfBest_2 f_best f_choice f_port_worth fuel v1 v2 v3 = some res → WW p l e (headSpec wsX1_firstOfBest ({ frames := 3, cells := 0, slots := 0, locals := 65 } : Room)).room s m args below meth c D A 5 0 0 Q [(a_t, .inr (1, [.ref a_port, .ref a_choice, .ref b_left, .ref b_nameOf, .ref b_hullOf, .ref a_best])), (a_port, .inr (3, [.ref b_port_may, .ref b_port_voyage, .ref b_port_luck, .ref b_port_rank, .ref a_port_worth])), (a_best, .inl (cI, 224, .inl f_best)), (a_choice, .inl (cI, 6, .inl f_choice)), (a_port_worth, .inl (cI, 30, .inl f_port_worth))] [(0, .ref a_t), (1, .int v1), (2, .int v2), (3, .int v3)] [] 2 := by
    intro fuel_2
    induction fuel_2 with
    | zero => intro v1 v2 v3 h; exact og_0 h
    | succ fuel_2 ih_2 =>
      have cut_53 : ∀ (v1 : Int32) (v2 : Int32) (v3 : Int32), m_X1_firstOfBest_53 (m_X1_firstOfBest_2 f_best f_choice f_port_worth fuel_2) f_best f_choice f_port_worth v1 v2 v3 = some res → WW p l e (headSpec wsX1_firstOfBest ({ frames := 3, cells := 0, slots := 0, locals := 65 } : Room)).room s m args below meth c D A 5 0 0 Q [(a_t, .inr (1, [.ref a_port, .ref a_choice, .ref b_left, .ref b_nameOf, .ref b_hullOf, .ref a_best])), (a_port, .inr (3, [.ref b_port_may, .ref b_port_voyage, .ref b_port_luck, .ref b_port_rank, .ref a_port_worth])), (a_best, .inl (cI, 224, .inl f_best)), (a_choice, .inl (cI, 6, .inl f_choice)), (a_port_worth, .inl (cI, 30, .inl f_port_worth))] [(0, .ref a_t), (1, .int v1), (2, .int v2), (3, .int v3)] [] 53 := by
        intro v1 v2 v3 h
        replace h : (ogl (v3 + 1) (fun (v3_53 : Int32) => ((m_X1_firstOfBest_2 f_best f_choice f_port_worth fuel_2) v1 v2 v3_53)) : Option Int32) = some res := h
        obtain ⟨v3_53, ev3_53⟩ : ∃ y : Int32, y = (v3 + 1) := ⟨_, rfl⟩
        refine ww_iinc B dX1_firstOfBest_53 3 rfl (v := v3_53) (by rw [ev3_53]; rfl) (by decide) (lv' := [(3, .int v3_53), (0, .ref a_t), (1, .int v1), (2, .int v2)]) rfl ?_
        replace h := og_l ev3_53 h
        refine ww_goto B 2 dX1_firstOfBest_56 (by decide) ?_
        refine ww_lsel (lv' := [(0, .ref a_t), (1, .int v1), (2, .int v2), (3, .int v3_53)]) [1, 2, 3, 0] rfl ?_
        exact ih_2 _ _ _ h
      intro v1 v2 v3 h
      replace h : (if 5 ≤ v3 then (some (-6)) else (ogb (m_X7_at 6 f_choice v1) (fun q_12 => ogb (m_X7_hasBit (q_12 &&& v2) v3) (fun q_18 => if q_18 = 0 then ((m_X1_firstOfBest_53 (m_X1_firstOfBest_2 f_best f_choice f_port_worth fuel_2) f_best f_choice f_port_worth v1 v2 v3)) else (ogb (m_X1_gain f_best f_port_worth v1 v3 v2) (fun q_32 => ogb (m_X7_at 224 f_best ((v1 * 32) + v2)) (fun q_45 => if q_32 = q_45 then (some v3) else ((m_X1_firstOfBest_53 (m_X1_firstOfBest_2 f_best f_choice f_port_worth fuel_2) f_best f_choice f_port_worth v1 v2 v3)))))))) : Option Int32) = some res := h
      refine ww_iload_n B dX1_firstOfBest_2 3 rfl ?_
      refine ww_iconst B dX1_firstOfBest_3 (v := 5) (by decide) ?_
      refine ww_icmp_ge B 59 dX1_firstOfBest_4 (by decide) (fun c_4 => ?_) (fun c_4 => ?_)
      · replace h := og_t c_4 h
        refine ww_bipush B dX1_firstOfBest_59 (v := (-6)) (by decide) ?_
        exact ww_iret B hA hQ hr dX1_firstOfBest_61 () [0, 1, 2, 3, 4] rfl (by decide) (og_s h).symm
      · replace h := og_f c_4 h
        refine ww_aload_n B dX1_firstOfBest_7 0 rfl ?_
        refine ww_get (ci := 1) (T := TX1) (C := RX1) (N := 6) B iX1 0 rfl rfl 1 (by decide) (by decide +kernel) rfl rfl dX1_firstOfBest_8 ?_
        refine ww_iload_n B dX1_firstOfBest_11 1 rfl ?_
        obtain ⟨q_12, hq_12, h⟩ := og_b h
        refine ww_ci0 B (k' := 0) (n' := 0) rfl rfl [3] [0, 1, 2, 4] (wr := [(a_t, .inr (1, [.ref a_port, .ref a_choice, .ref b_left, .ref b_nameOf, .ref b_hullOf, .ref a_best])), (a_port, .inr (3, [.ref b_port_may, .ref b_port_voyage, .ref b_port_luck, .ref b_port_rank, .ref a_port_worth])), (a_best, .inl (cI, 224, .inl f_best)), (a_port_worth, .inl (cI, 30, .inl f_port_worth))]) (st := []) rfl rfl (by decide) (rr_SN B (c_X7_at l D cI cZ a_choice 6 f_choice v1 hq_12) gX1_firstOfBest_X7_at_n40 rfl rfl rfl (by decide +kernel) (by decide +kernel) (by decide +kernel) (N := 2) rfl (by decide +kernel) ⟨Nat.le_of_ble_eq_true rfl, Nat.le_of_ble_eq_true rfl⟩ rfl dX1_firstOfBest_12 (Nat.le_of_ble_eq_true rfl) ⟨Nat.le_of_ble_eq_true rfl, Nat.le_of_ble_eq_true rfl⟩) (ws' := [(a_t, .inr (1, [.ref a_port, .ref a_choice, .ref b_left, .ref b_nameOf, .ref b_hullOf, .ref a_best])), (a_port, .inr (3, [.ref b_port_may, .ref b_port_voyage, .ref b_port_luck, .ref b_port_rank, .ref a_port_worth])), (a_best, .inl (cI, 224, .inl f_best)), (a_port_worth, .inl (cI, 30, .inl f_port_worth)), (a_choice, .inl (cI, 6, .inl f_choice))]) rfl ?_
        refine ww_iload_n B dX1_firstOfBest_15 2 rfl ?_
        refine ww_iand B dX1_firstOfBest_16 ?_
        refine ww_iload_n B dX1_firstOfBest_17 3 rfl ?_
        obtain ⟨q_18, hq_18, h⟩ := og_b h
        refine ww_ci0 B (k' := 0) (n' := 0) rfl rfl [] [0, 1, 2, 3, 4] (wr := [(a_t, .inr (1, [.ref a_port, .ref a_choice, .ref b_left, .ref b_nameOf, .ref b_hullOf, .ref a_best])), (a_port, .inr (3, [.ref b_port_may, .ref b_port_voyage, .ref b_port_luck, .ref b_port_rank, .ref a_port_worth])), (a_best, .inl (cI, 224, .inl f_best)), (a_port_worth, .inl (cI, 30, .inl f_port_worth)), (a_choice, .inl (cI, 6, .inl f_choice))]) (st := []) rfl rfl (by decide) (rr_SN B (c_X7_hasBit l D cI cZ (q_12 &&& v2) v3 hq_18) gX1_firstOfBest_X7_hasBit_n31 rfl rfl rfl (by decide +kernel) (by decide +kernel) (by decide +kernel) (N := 2) rfl (by decide +kernel) ⟨Nat.le_of_ble_eq_true rfl, Nat.le_of_ble_eq_true rfl⟩ rfl dX1_firstOfBest_18 (Nat.le_of_ble_eq_true rfl) ⟨Nat.le_of_ble_eq_true rfl, Nat.le_of_ble_eq_true rfl⟩) (ws' := [(a_t, .inr (1, [.ref a_port, .ref a_choice, .ref b_left, .ref b_nameOf, .ref b_hullOf, .ref a_best])), (a_port, .inr (3, [.ref b_port_may, .ref b_port_voyage, .ref b_port_luck, .ref b_port_rank, .ref a_port_worth])), (a_best, .inl (cI, 224, .inl f_best)), (a_port_worth, .inl (cI, 30, .inl f_port_worth)), (a_choice, .inl (cI, 6, .inl f_choice))]) rfl ?_
        refine ww_istore B dX1_firstOfBest_21 (lv' := [(4, .int q_18), (0, .ref a_t), (1, .int v1), (2, .int v2), (3, .int v3)]) (by decide) rfl ?_
        refine ww_iload B dX1_firstOfBest_23 0 rfl ?_
        refine ww_if_eq B 53 dX1_firstOfBest_25 (by decide) (fun c_25 => ?_) (fun c_25 => ?_)
        · replace h := og_t c_25 h
          refine ww_sub (ws' := [(a_t, .inr (1, [.ref a_port, .ref a_choice, .ref b_left, .ref b_nameOf, .ref b_hullOf, .ref a_best])), (a_port, .inr (3, [.ref b_port_may, .ref b_port_voyage, .ref b_port_luck, .ref b_port_rank, .ref a_port_worth])), (a_best, .inl (cI, 224, .inl f_best)), (a_choice, .inl (cI, 6, .inl f_choice)), (a_port_worth, .inl (cI, 30, .inl f_port_worth))]) [0, 1, 2, 4, 3] rfl (by decide) ?_
          refine ww_lsel (lv' := [(0, .ref a_t), (1, .int v1), (2, .int v2), (3, .int v3)]) [1, 2, 3, 4] rfl ?_
          exact cut_53 _ _ _ h
        · replace h := og_f c_25 h
          refine ww_aload_n B dX1_firstOfBest_28 1 rfl ?_
          refine ww_iload_n B dX1_firstOfBest_29 2 rfl ?_
          refine ww_iload_n B dX1_firstOfBest_30 4 rfl ?_
          refine ww_iload_n B dX1_firstOfBest_31 3 rfl ?_
          obtain ⟨q_32, hq_32, h⟩ := og_b h
          refine ww_ci0 B (k' := 0) (n' := 0) rfl rfl [0, 1, 2, 3] [4] (wr := [(a_choice, .inl (cI, 6, .inl f_choice))]) (st := []) rfl rfl (by decide) (rr_V B (c_X1_gain l D cI cZ a_t a_port a_best a_port_worth a_choice b_left b_nameOf b_hullOf b_port_may b_port_voyage b_port_luck b_port_rank f_best f_port_worth v1 v3 v2 hq_32) gX1_firstOfBest_X1_gain rfl rfl rfl (N := 3) rfl (by decide +kernel) ⟨Nat.le_of_ble_eq_true rfl, Nat.le_of_ble_eq_true rfl⟩ rfl dX1_firstOfBest_32 0 rfl rfl (Nat.le_of_ble_eq_true rfl) ⟨Nat.le_of_ble_eq_true rfl, Nat.le_of_ble_eq_true rfl⟩) (ws' := [(a_choice, .inl (cI, 6, .inl f_choice)), (a_t, .inr (1, [.ref a_port, .ref a_choice, .ref b_left, .ref b_nameOf, .ref b_hullOf, .ref a_best])), (a_port, .inr (3, [.ref b_port_may, .ref b_port_voyage, .ref b_port_luck, .ref b_port_rank, .ref a_port_worth])), (a_best, .inl (cI, 224, .inl f_best)), (a_port_worth, .inl (cI, 30, .inl f_port_worth))]) rfl ?_
          refine ww_aload_n B dX1_firstOfBest_35 1 rfl ?_
          refine ww_get (ci := 1) (T := TX1) (C := RX1) (N := 6) B iX1 1 rfl rfl 5 (by decide) (by decide +kernel) rfl rfl dX1_firstOfBest_36 ?_
          refine ww_iload_n B dX1_firstOfBest_39 2 rfl ?_
          refine ww_bipush B dX1_firstOfBest_40 (v := 32) (by decide) ?_
          refine ww_imul B dX1_firstOfBest_42 ?_
          refine ww_iload_n B dX1_firstOfBest_43 3 rfl ?_
          refine ww_iadd B dX1_firstOfBest_44 ?_
          obtain ⟨q_45, hq_45, h⟩ := og_b h
          refine ww_ci0 B (k' := 0) (n' := 0) rfl rfl [3] [0, 1, 2, 4] (wr := [(a_choice, .inl (cI, 6, .inl f_choice)), (a_t, .inr (1, [.ref a_port, .ref a_choice, .ref b_left, .ref b_nameOf, .ref b_hullOf, .ref a_best])), (a_port, .inr (3, [.ref b_port_may, .ref b_port_voyage, .ref b_port_luck, .ref b_port_rank, .ref a_port_worth])), (a_port_worth, .inl (cI, 30, .inl f_port_worth))]) (st := [.int q_32]) rfl rfl (by decide) (rr_SN B (c_X7_at l D cI cZ a_best 224 f_best ((v1 * 32) + v2) hq_45) gX1_firstOfBest_X7_at_n40 rfl rfl rfl (by decide +kernel) (by decide +kernel) (by decide +kernel) (N := 2) rfl (by decide +kernel) ⟨Nat.le_of_ble_eq_true rfl, Nat.le_of_ble_eq_true rfl⟩ rfl dX1_firstOfBest_45 (Nat.le_of_ble_eq_true rfl) ⟨Nat.le_of_ble_eq_true rfl, Nat.le_of_ble_eq_true rfl⟩) (ws' := [(a_choice, .inl (cI, 6, .inl f_choice)), (a_t, .inr (1, [.ref a_port, .ref a_choice, .ref b_left, .ref b_nameOf, .ref b_hullOf, .ref a_best])), (a_port, .inr (3, [.ref b_port_may, .ref b_port_voyage, .ref b_port_luck, .ref b_port_rank, .ref a_port_worth])), (a_port_worth, .inl (cI, 30, .inl f_port_worth)), (a_best, .inl (cI, 224, .inl f_best))]) rfl ?_
          refine ww_icmp_ne B 53 dX1_firstOfBest_48 (by decide) (fun c_48 => ?_) (fun c_48 => ?_)
          · replace h := og_f c_48 h
            refine ww_sub (ws' := [(a_t, .inr (1, [.ref a_port, .ref a_choice, .ref b_left, .ref b_nameOf, .ref b_hullOf, .ref a_best])), (a_port, .inr (3, [.ref b_port_may, .ref b_port_voyage, .ref b_port_luck, .ref b_port_rank, .ref a_port_worth])), (a_best, .inl (cI, 224, .inl f_best)), (a_choice, .inl (cI, 6, .inl f_choice)), (a_port_worth, .inl (cI, 30, .inl f_port_worth))]) [1, 2, 4, 0, 3] rfl (by decide) ?_
            refine ww_lsel (lv' := [(0, .ref a_t), (1, .int v1), (2, .int v2), (3, .int v3)]) [1, 2, 3, 4] rfl ?_
            exact cut_53 _ _ _ h
          · replace h := og_t c_48 h
            refine ww_iload_n B dX1_firstOfBest_51 4 rfl ?_
            exact ww_iret B hA hQ hr dX1_firstOfBest_52 () [1, 2, 4, 0, 3] rfl (by decide) (og_s h).symm
  refine ww_iconst B dX1_firstOfBest_0 (v := 0) (by decide) ?_
  refine ww_istore_n B dX1_firstOfBest_1 (lv' := [(3, .int 0), (0, .ref a_t), (1, .int v1), (2, .int v2)]) (by decide) rfl ?_
  refine ww_lsel (lv' := [(0, .ref a_t), (1, .int v1), (2, .int v2), (3, .int 0)]) [1, 2, 3, 0] rfl ?_
  exact cut_2 _ _ _ _ h
noncomputable def m_X1_findMost_86 (k49 : Int32 → Int32 → (Nat → Int32) → (Nat → Int32) → (Nat → Int32) → Option ((Nat → Int32) × (Nat → Int32) × (Nat → Int32))) (f_choice : (Nat → Int32)) (f_port_worth : (Nat → Int32)) (v2 : Int32) (v3 : Int32) (f_best : (Nat → Int32)) (f_hullOf : (Nat → Int32)) (f_nameOf : (Nat → Int32)) : Option ((Nat → Int32) × (Nat → Int32) × (Nat → Int32)) := ogl (v3 + 1) (fun (v3_86 : Int32) => (k49 v2 v3_86 f_best f_hullOf f_nameOf))
noncomputable def m_X1_findMost_49b (k49 : Int32 → Int32 → (Nat → Int32) → (Nat → Int32) → (Nat → Int32) → Option ((Nat → Int32) × (Nat → Int32) × (Nat → Int32))) (f_choice : (Nat → Int32)) (f_port_worth : (Nat → Int32)) (v2 : Int32) (v3 : Int32) (f_best : (Nat → Int32)) (f_hullOf : (Nat → Int32)) (f_nameOf : (Nat → Int32)) : Option ((Nat → Int32) × (Nat → Int32) × (Nat → Int32)) := if 6 ≤ v3 then (some (f_best, f_hullOf, f_nameOf)) else (ogb (m_X1_firstOfBest f_best f_choice f_port_worth v3 v2) (fun q_58 => if q_58 = (-6) then ((m_X1_findMost_86 k49 f_choice f_port_worth v2 v3 f_best f_hullOf f_nameOf)) else (ogb (m_X1_give f_hullOf f_nameOf v3 q_58) (fun q_74 => ogl (v2 &&& ((((1 : Int32) <<< ((q_58 : Int32) &&& 31)) : Int32) ^^^ ((-1) : Int32))) (fun (v2_85 : Int32) => (m_X1_findMost_86 k49 f_choice f_port_worth v2_85 v3 f_best q_74.1 q_74.2))))))
noncomputable def m_X1_findMost_49 (f_choice : (Nat → Int32)) (f_port_worth : (Nat → Int32)) (fuel : Nat) : Int32 → Int32 → (Nat → Int32) → (Nat → Int32) → (Nat → Int32) → Option ((Nat → Int32) × (Nat → Int32) × (Nat → Int32)) := Nat.rec (fun _ _ _ _ _ => none) (fun _ k49 => m_X1_findMost_49b k49 f_choice f_port_worth) fuel
noncomputable def m_X1_findMost_8b (k2 : Int32 → Int32 → (Nat → Int32) → (Nat → Int32) → (Nat → Int32) → Option ((Nat → Int32) × (Nat → Int32) × (Nat → Int32))) (k8 : Int32 → Int32 → Int32 → (Nat → Int32) → (Nat → Int32) → (Nat → Int32) → Option ((Nat → Int32) × (Nat → Int32) × (Nat → Int32))) (f_choice : (Nat → Int32)) (f_port_worth : (Nat → Int32)) (v1 : Int32) (v2 : Int32) (v3 : Int32) (f_best : (Nat → Int32)) (f_hullOf : (Nat → Int32)) (f_nameOf : (Nat → Int32)) : Option ((Nat → Int32) × (Nat → Int32) × (Nat → Int32)) := if 32 ≤ v3 then (ogl (v2 + (-1)) (fun (v2_39 : Int32) => (k2 v1 v2_39 f_best f_hullOf f_nameOf))) else (ogb (m_X1_bestGain f_best f_choice f_port_worth v2 v3) (fun q_27 => ogb (m_X7_put 224 f_best ((v2 * 32) + v3) q_27) (fun q_30 => ogl (v3 + 1) (fun (v3_33 : Int32) => (k8 v1 v2 v3_33 q_30 f_hullOf f_nameOf)))))
noncomputable def m_X1_findMost_8 (k2 : Int32 → Int32 → (Nat → Int32) → (Nat → Int32) → (Nat → Int32) → Option ((Nat → Int32) × (Nat → Int32) × (Nat → Int32))) (f_choice : (Nat → Int32)) (f_port_worth : (Nat → Int32)) (fuel : Nat) : Int32 → Int32 → Int32 → (Nat → Int32) → (Nat → Int32) → (Nat → Int32) → Option ((Nat → Int32) × (Nat → Int32) × (Nat → Int32)) := Nat.rec (fun _ _ _ _ _ _ => none) (fun _ k8 => m_X1_findMost_8b k2 k8 f_choice f_port_worth) fuel
noncomputable def m_X1_findMost_2b (k2 : Int32 → Int32 → (Nat → Int32) → (Nat → Int32) → (Nat → Int32) → Option ((Nat → Int32) × (Nat → Int32) × (Nat → Int32))) (f_choice : (Nat → Int32)) (f_port_worth : (Nat → Int32)) (v1 : Int32) (v2 : Int32) (f_best : (Nat → Int32)) (f_hullOf : (Nat → Int32)) (f_nameOf : (Nat → Int32)) : Option ((Nat → Int32) × (Nat → Int32) × (Nat → Int32)) := if v2 < 0 then ((m_X1_findMost_49 f_choice f_port_worth 1000000 v1 0 f_best f_hullOf f_nameOf)) else ((m_X1_findMost_8 k2 f_choice f_port_worth 1000000 v1 v2 0 f_best f_hullOf f_nameOf))
noncomputable def m_X1_findMost_2 (f_choice : (Nat → Int32)) (f_port_worth : (Nat → Int32)) (fuel : Nat) : Int32 → Int32 → (Nat → Int32) → (Nat → Int32) → (Nat → Int32) → Option ((Nat → Int32) × (Nat → Int32) × (Nat → Int32)) := Nat.rec (fun _ _ _ _ _ => none) (fun _ k2 => m_X1_findMost_2b k2 f_choice f_port_worth) fuel
noncomputable def m_X1_findMost (f_choice : (Nat → Int32)) (f_port_worth : (Nat → Int32)) (f_best : (Nat → Int32)) (f_hullOf : (Nat → Int32)) (f_nameOf : (Nat → Int32)) (v1 : Int32) : Option ((Nat → Int32) × (Nat → Int32) × (Nat → Int32)) := (m_X1_findMost_2 f_choice f_port_worth 1000000 v1 5 f_best f_hullOf f_nameOf)
set_option maxHeartbeats 4000000 in
set_option maxRecDepth 100000 in
theorem c_X1_findMost (l : Launch) (D : va_G) (cI cZ : ClassId) (a_t a_port a_best a_choice a_hullOf a_nameOf a_port_worth b_left b_port_may b_port_voyage b_port_luck b_port_rank : Nat) (f_best : (Nat → Int32)) (f_choice : (Nat → Int32)) (f_hullOf : (Nat → Int32)) (f_nameOf : (Nat → Int32)) (f_port_worth : (Nat → Int32)) (v1 : Int32) {res : ((Nat → Int32) × (Nat → Int32) × (Nat → Int32))} (h : m_X1_findMost f_choice f_port_worth f_best f_hullOf f_nameOf v1 = some res) : CT l yX1_findMost wsX1_findMost ({ frames := 4, cells := 0, slots := 0, locals := 89 } : Room) D cI cZ [.ref a_t, .int v1] [(a_t, .inr (1, [.ref a_port, .ref a_choice, .ref b_left, .ref a_nameOf, .ref a_hullOf, .ref a_best])), (a_port, .inr (3, [.ref b_port_may, .ref b_port_voyage, .ref b_port_luck, .ref b_port_rank, .ref a_port_worth])), (a_best, .inl (cI, 224, .inl f_best)), (a_choice, .inl (cI, 6, .inl f_choice)), (a_hullOf, .inl (cI, 5, .inl f_hullOf)), (a_nameOf, .inl (cI, 6, .inl f_nameOf)), (a_port_worth, .inl (cI, 30, .inl f_port_worth))] (QV D [(a_t, .inr (1, [.ref a_port, .ref a_choice, .ref b_left, .ref a_nameOf, .ref a_hullOf, .ref a_best])), (a_port, .inr (3, [.ref b_port_may, .ref b_port_voyage, .ref b_port_luck, .ref b_port_rank, .ref a_port_worth])), (a_best, .inl (cI, 224, .inl f_best)), (a_choice, .inl (cI, 6, .inl f_choice)), (a_hullOf, .inl (cI, 5, .inl f_hullOf)), (a_nameOf, .inl (cI, 6, .inl f_nameOf)), (a_port_worth, .inl (cI, 30, .inl f_port_worth))] (fun (u : (Nat → Int32) × (Nat → Int32) × (Nat → Int32)) => u = res) (fun (u : (Nat → Int32) × (Nat → Int32) × (Nat → Int32)) => [(a_t, .inr (1, [.ref a_port, .ref a_choice, .ref b_left, .ref a_nameOf, .ref a_hullOf, .ref a_best])), (a_port, .inr (3, [.ref b_port_may, .ref b_port_voyage, .ref b_port_luck, .ref b_port_rank, .ref a_port_worth])), (a_best, .inl (cI, 224, .inl u.1)), (a_choice, .inl (cI, 6, .inl f_choice)), (a_hullOf, .inl (cI, 5, .inl u.2.1)), (a_nameOf, .inl (cI, 6, .inl u.2.2)), (a_port_worth, .inl (cI, 30, .inl f_port_worth))])) 0 0 := by
  have h : ((m_X1_findMost_2 f_choice f_port_worth 1000000 v1 5 f_best f_hullOf f_nameOf) : Option ((Nat → Int32) × (Nat → Int32) × (Nat → Int32))) = some res := h
  refine ct_entry (cc := cX1_findMost) (nl := 5) (ret := none) (own := RX1) (lv0 := [(0, .ref a_t), (1, .int v1)]) (by decide) rfl rfl (Nat.le_of_ble_eq_true rfl) rfl ?_
  intro p e s m args below meth c A Q hA hQ hr hnm B
  have iX1 : ∀ w ∈ wsX10, w ∈ wsX1_findMost := by decide +kernel
  have cut_49 : ∀ (fuel : Nat) (v2 : Int32) (v3 : Int32) (f_best : (Nat → Int32)) (f_hullOf : (Nat → Int32)) (f_nameOf : (Nat → Int32)), m_X1_findMost_49 f_choice f_port_worth fuel v2 v3 f_best f_hullOf f_nameOf = some res → WW p l e (headSpec wsX1_findMost ({ frames := 4, cells := 0, slots := 0, locals := 89 } : Room)).room s m args below meth c D A 5 0 0 Q [(a_t, .inr (1, [.ref a_port, .ref a_choice, .ref b_left, .ref a_nameOf, .ref a_hullOf, .ref a_best])), (a_port, .inr (3, [.ref b_port_may, .ref b_port_voyage, .ref b_port_luck, .ref b_port_rank, .ref a_port_worth])), (a_best, .inl (cI, 224, .inl f_best)), (a_choice, .inl (cI, 6, .inl f_choice)), (a_hullOf, .inl (cI, 5, .inl f_hullOf)), (a_nameOf, .inl (cI, 6, .inl f_nameOf)), (a_port_worth, .inl (cI, 30, .inl f_port_worth))] [(0, .ref a_t), (2, .int v2), (3, .int v3)] [] 49 := by
    intro fuel_49
    induction fuel_49 with
    | zero => intro v2 v3 f_best f_hullOf f_nameOf h; exact og_0 h
    | succ fuel_49 ih_49 =>
      have cut_86 : ∀ (v2 : Int32) (v3 : Int32) (f_best : (Nat → Int32)) (f_hullOf : (Nat → Int32)) (f_nameOf : (Nat → Int32)), m_X1_findMost_86 (m_X1_findMost_49 f_choice f_port_worth fuel_49) f_choice f_port_worth v2 v3 f_best f_hullOf f_nameOf = some res → WW p l e (headSpec wsX1_findMost ({ frames := 4, cells := 0, slots := 0, locals := 89 } : Room)).room s m args below meth c D A 5 0 0 Q [(a_t, .inr (1, [.ref a_port, .ref a_choice, .ref b_left, .ref a_nameOf, .ref a_hullOf, .ref a_best])), (a_port, .inr (3, [.ref b_port_may, .ref b_port_voyage, .ref b_port_luck, .ref b_port_rank, .ref a_port_worth])), (a_best, .inl (cI, 224, .inl f_best)), (a_choice, .inl (cI, 6, .inl f_choice)), (a_hullOf, .inl (cI, 5, .inl f_hullOf)), (a_nameOf, .inl (cI, 6, .inl f_nameOf)), (a_port_worth, .inl (cI, 30, .inl f_port_worth))] [(0, .ref a_t), (2, .int v2), (3, .int v3)] [] 86 := by
        intro v2 v3 f_best f_hullOf f_nameOf h
        replace h : (ogl (v3 + 1) (fun (v3_86 : Int32) => ((m_X1_findMost_49 f_choice f_port_worth fuel_49) v2 v3_86 f_best f_hullOf f_nameOf)) : Option ((Nat → Int32) × (Nat → Int32) × (Nat → Int32))) = some res := h
        obtain ⟨v3_86, ev3_86⟩ : ∃ y : Int32, y = (v3 + 1) := ⟨_, rfl⟩
        refine ww_iinc B dX1_findMost_86 2 rfl (v := v3_86) (by rw [ev3_86]; rfl) (by decide) (lv' := [(3, .int v3_86), (0, .ref a_t), (2, .int v2)]) rfl ?_
        replace h := og_l ev3_86 h
        refine ww_goto B 49 dX1_findMost_89 (by decide) ?_
        refine ww_lsel (lv' := [(0, .ref a_t), (2, .int v2), (3, .int v3_86)]) [1, 2, 0] rfl ?_
        exact ih_49 _ _ _ _ _ h
      intro v2 v3 f_best f_hullOf f_nameOf h
      replace h : (if 6 ≤ v3 then (some (f_best, f_hullOf, f_nameOf)) else (ogb (m_X1_firstOfBest f_best f_choice f_port_worth v3 v2) (fun q_58 => if q_58 = (-6) then ((m_X1_findMost_86 (m_X1_findMost_49 f_choice f_port_worth fuel_49) f_choice f_port_worth v2 v3 f_best f_hullOf f_nameOf)) else (ogb (m_X1_give f_hullOf f_nameOf v3 q_58) (fun q_74 => ogl (v2 &&& ((((1 : Int32) <<< ((q_58 : Int32) &&& 31)) : Int32) ^^^ ((-1) : Int32))) (fun (v2_85 : Int32) => (m_X1_findMost_86 (m_X1_findMost_49 f_choice f_port_worth fuel_49) f_choice f_port_worth v2_85 v3 f_best q_74.1 q_74.2)))))) : Option ((Nat → Int32) × (Nat → Int32) × (Nat → Int32))) = some res := h
      refine ww_iload_n B dX1_findMost_49 2 rfl ?_
      refine ww_bipush B dX1_findMost_50 (v := 6) (by decide) ?_
      refine ww_icmp_ge B 92 dX1_findMost_52 (by decide) (fun c_52 => ?_) (fun c_52 => ?_)
      · replace h := og_t c_52 h
        exact ww_vret B hA hQ hr dX1_findMost_92 (f_best, f_hullOf, f_nameOf) [0, 1, 2, 3, 4, 5, 6] rfl (by decide) (og_s h).symm
      · replace h := og_f c_52 h
        refine ww_aload_n B dX1_findMost_55 0 rfl ?_
        refine ww_iload_n B dX1_findMost_56 2 rfl ?_
        refine ww_iload_n B dX1_findMost_57 1 rfl ?_
        obtain ⟨q_58, hq_58, h⟩ := og_b h
        refine ww_ci0 B (k' := 0) (n' := 0) rfl rfl [0, 1, 2, 3, 6] [4, 5] (wr := [(a_hullOf, .inl (cI, 5, .inl f_hullOf)), (a_nameOf, .inl (cI, 6, .inl f_nameOf))]) (st := []) rfl rfl (by decide) (rr_V B (c_X1_firstOfBest l D cI cZ a_t a_port a_best a_choice a_port_worth b_left a_nameOf a_hullOf b_port_may b_port_voyage b_port_luck b_port_rank f_best f_choice f_port_worth v3 v2 hq_58) gX1_findMost_X1_firstOfBest rfl rfl rfl (N := 2) rfl (by decide +kernel) ⟨Nat.le_of_ble_eq_true rfl, Nat.le_of_ble_eq_true rfl⟩ rfl dX1_findMost_58 0 rfl rfl (Nat.le_of_ble_eq_true rfl) ⟨Nat.le_of_ble_eq_true rfl, Nat.le_of_ble_eq_true rfl⟩) (ws' := [(a_hullOf, .inl (cI, 5, .inl f_hullOf)), (a_nameOf, .inl (cI, 6, .inl f_nameOf)), (a_t, .inr (1, [.ref a_port, .ref a_choice, .ref b_left, .ref a_nameOf, .ref a_hullOf, .ref a_best])), (a_port, .inr (3, [.ref b_port_may, .ref b_port_voyage, .ref b_port_luck, .ref b_port_rank, .ref a_port_worth])), (a_best, .inl (cI, 224, .inl f_best)), (a_choice, .inl (cI, 6, .inl f_choice)), (a_port_worth, .inl (cI, 30, .inl f_port_worth))]) rfl ?_
        refine ww_istore B dX1_findMost_61 (lv' := [(4, .int q_58), (0, .ref a_t), (2, .int v2), (3, .int v3)]) (by decide) rfl ?_
        refine ww_iload B dX1_findMost_63 0 rfl ?_
        refine ww_bipush B dX1_findMost_65 (v := (-6)) (by decide) ?_
        refine ww_icmp_eq B 86 dX1_findMost_67 (by decide) (fun c_67 => ?_) (fun c_67 => ?_)
        · replace h := og_t c_67 h
          refine ww_sub (ws' := [(a_t, .inr (1, [.ref a_port, .ref a_choice, .ref b_left, .ref a_nameOf, .ref a_hullOf, .ref a_best])), (a_port, .inr (3, [.ref b_port_may, .ref b_port_voyage, .ref b_port_luck, .ref b_port_rank, .ref a_port_worth])), (a_best, .inl (cI, 224, .inl f_best)), (a_choice, .inl (cI, 6, .inl f_choice)), (a_hullOf, .inl (cI, 5, .inl f_hullOf)), (a_nameOf, .inl (cI, 6, .inl f_nameOf)), (a_port_worth, .inl (cI, 30, .inl f_port_worth))]) [2, 3, 4, 5, 0, 1, 6] rfl (by decide) ?_
          refine ww_lsel (lv' := [(0, .ref a_t), (2, .int v2), (3, .int v3)]) [1, 2, 3] rfl ?_
          exact cut_86 _ _ _ _ _ h
        · replace h := og_f c_67 h
          refine ww_aload_n B dX1_findMost_70 1 rfl ?_
          refine ww_iload_n B dX1_findMost_71 3 rfl ?_
          refine ww_iload B dX1_findMost_72 0 rfl ?_
          obtain ⟨q_74, hq_74, h⟩ := og_b h
          refine ww_cvM B (k' := 0) (n' := 0) rfl rfl [2, 0, 1] [3, 4, 5, 6] (wr := [(a_port, .inr (3, [.ref b_port_may, .ref b_port_voyage, .ref b_port_luck, .ref b_port_rank, .ref a_port_worth])), (a_best, .inl (cI, 224, .inl f_best)), (a_choice, .inl (cI, 6, .inl f_choice)), (a_port_worth, .inl (cI, 30, .inl f_port_worth))]) (st := []) rfl rfl (by decide) (rr_V B (c_X1_give l D cI cZ a_t a_hullOf a_nameOf a_port a_choice b_left a_best f_hullOf f_nameOf v3 q_58 hq_74) gX1_findMost_X1_give rfl rfl rfl (N := 2) rfl (by decide +kernel) ⟨Nat.le_of_ble_eq_true rfl, Nat.le_of_ble_eq_true rfl⟩ rfl dX1_findMost_74 0 rfl rfl (Nat.le_of_ble_eq_true rfl) ⟨Nat.le_of_ble_eq_true rfl, Nat.le_of_ble_eq_true rfl⟩) (ws' := [(a_port, .inr (3, [.ref b_port_may, .ref b_port_voyage, .ref b_port_luck, .ref b_port_rank, .ref a_port_worth])), (a_best, .inl (cI, 224, .inl f_best)), (a_choice, .inl (cI, 6, .inl f_choice)), (a_port_worth, .inl (cI, 30, .inl f_port_worth)), (a_t, .inr (1, [.ref a_port, .ref a_choice, .ref b_left, .ref a_nameOf, .ref a_hullOf, .ref a_best])), (a_hullOf, .inl (cI, 5, .inl q_74.1)), (a_nameOf, .inl (cI, 6, .inl q_74.2))]) rfl ?_
          refine ww_iload_n B dX1_findMost_77 2 rfl ?_
          refine ww_iconst B dX1_findMost_78 (v := 1) (by decide) ?_
          refine ww_iload B dX1_findMost_79 0 rfl ?_
          refine ww_ishl B dX1_findMost_81 ?_
          refine ww_iconst B dX1_findMost_82 (v := (-1)) (by decide) ?_
          refine ww_ixor B dX1_findMost_83 ?_
          refine ww_iand B dX1_findMost_84 ?_
          refine ww_topi (fun v2_85 ev2_85 => ?_)
          replace h := og_l ev2_85 h
          refine ww_istore_n B dX1_findMost_85 (lv' := [(2, .int v2_85), (4, .int q_58), (0, .ref a_t), (3, .int v3)]) (by decide) rfl ?_
          refine ww_sub (ws' := [(a_t, .inr (1, [.ref a_port, .ref a_choice, .ref b_left, .ref a_nameOf, .ref a_hullOf, .ref a_best])), (a_port, .inr (3, [.ref b_port_may, .ref b_port_voyage, .ref b_port_luck, .ref b_port_rank, .ref a_port_worth])), (a_best, .inl (cI, 224, .inl f_best)), (a_choice, .inl (cI, 6, .inl f_choice)), (a_hullOf, .inl (cI, 5, .inl q_74.1)), (a_nameOf, .inl (cI, 6, .inl q_74.2)), (a_port_worth, .inl (cI, 30, .inl f_port_worth))]) [4, 0, 1, 2, 5, 6, 3] rfl (by decide) ?_
          refine ww_lsel (lv' := [(0, .ref a_t), (2, .int v2_85), (3, .int v3)]) [2, 0, 3] rfl ?_
          exact cut_86 _ _ _ _ _ h
  have cut_2 : ∀ (fuel : Nat) (v1 : Int32) (v2 : Int32) (f_best : (Nat → Int32)) (f_hullOf : (Nat → Int32)) (f_nameOf : (Nat → Int32)), m_X1_findMost_2 f_choice f_port_worth fuel v1 v2 f_best f_hullOf f_nameOf = some res → WW p l e (headSpec wsX1_findMost ({ frames := 4, cells := 0, slots := 0, locals := 89 } : Room)).room s m args below meth c D A 5 0 0 Q [(a_t, .inr (1, [.ref a_port, .ref a_choice, .ref b_left, .ref a_nameOf, .ref a_hullOf, .ref a_best])), (a_port, .inr (3, [.ref b_port_may, .ref b_port_voyage, .ref b_port_luck, .ref b_port_rank, .ref a_port_worth])), (a_best, .inl (cI, 224, .inl f_best)), (a_choice, .inl (cI, 6, .inl f_choice)), (a_hullOf, .inl (cI, 5, .inl f_hullOf)), (a_nameOf, .inl (cI, 6, .inl f_nameOf)), (a_port_worth, .inl (cI, 30, .inl f_port_worth))] [(0, .ref a_t), (1, .int v1), (2, .int v2)] [] 2 := by
    intro fuel_2
    induction fuel_2 with
    | zero => intro v1 v2 f_best f_hullOf f_nameOf h; exact og_0 h
    | succ fuel_2 ih_2 =>
      have cut_8 : ∀ (fuel : Nat) (v1 : Int32) (v2 : Int32) (v3 : Int32) (f_best : (Nat → Int32)) (f_hullOf : (Nat → Int32)) (f_nameOf : (Nat → Int32)), m_X1_findMost_8 (m_X1_findMost_2 f_choice f_port_worth fuel_2) f_choice f_port_worth fuel v1 v2 v3 f_best f_hullOf f_nameOf = some res → WW p l e (headSpec wsX1_findMost ({ frames := 4, cells := 0, slots := 0, locals := 89 } : Room)).room s m args below meth c D A 5 0 0 Q [(a_t, .inr (1, [.ref a_port, .ref a_choice, .ref b_left, .ref a_nameOf, .ref a_hullOf, .ref a_best])), (a_port, .inr (3, [.ref b_port_may, .ref b_port_voyage, .ref b_port_luck, .ref b_port_rank, .ref a_port_worth])), (a_best, .inl (cI, 224, .inl f_best)), (a_choice, .inl (cI, 6, .inl f_choice)), (a_hullOf, .inl (cI, 5, .inl f_hullOf)), (a_nameOf, .inl (cI, 6, .inl f_nameOf)), (a_port_worth, .inl (cI, 30, .inl f_port_worth))] [(0, .ref a_t), (1, .int v1), (2, .int v2), (3, .int v3)] [] 8 := by
        intro fuel_8
        induction fuel_8 with
        | zero => intro v1 v2 v3 f_best f_hullOf f_nameOf h; exact og_0 h
        | succ fuel_8 ih_8 =>
          intro v1 v2 v3 f_best f_hullOf f_nameOf h
          replace h : (if 32 ≤ v3 then (ogl (v2 + (-1)) (fun (v2_39 : Int32) => ((m_X1_findMost_2 f_choice f_port_worth fuel_2) v1 v2_39 f_best f_hullOf f_nameOf))) else (ogb (m_X1_bestGain f_best f_choice f_port_worth v2 v3) (fun q_27 => ogb (m_X7_put 224 f_best ((v2 * 32) + v3) q_27) (fun q_30 => ogl (v3 + 1) (fun (v3_33 : Int32) => ((m_X1_findMost_8 (m_X1_findMost_2 f_choice f_port_worth fuel_2) f_choice f_port_worth fuel_8) v1 v2 v3_33 q_30 f_hullOf f_nameOf))))) : Option ((Nat → Int32) × (Nat → Int32) × (Nat → Int32))) = some res := h
          refine ww_iload_n B dX1_findMost_8 3 rfl ?_
          refine ww_bipush B dX1_findMost_9 (v := 32) (by decide) ?_
          refine ww_icmp_ge B 39 dX1_findMost_11 (by decide) (fun c_11 => ?_) (fun c_11 => ?_)
          · replace h := og_t c_11 h
            obtain ⟨v2_39, ev2_39⟩ : ∃ y : Int32, y = (v2 + (-1)) := ⟨_, rfl⟩
            refine ww_iinc B dX1_findMost_39 2 rfl (v := v2_39) (by rw [ev2_39]; rfl) (by decide) (lv' := [(2, .int v2_39), (0, .ref a_t), (1, .int v1), (3, .int v3)]) rfl ?_
            replace h := og_l ev2_39 h
            refine ww_goto B 2 dX1_findMost_42 (by decide) ?_
            refine ww_lsel (lv' := [(0, .ref a_t), (1, .int v1), (2, .int v2_39)]) [1, 2, 0] rfl ?_
            exact ih_2 _ _ _ _ _ h
          · replace h := og_f c_11 h
            refine ww_aload_n B dX1_findMost_14 0 rfl ?_
            refine ww_get (ci := 1) (T := TX1) (C := RX1) (N := 6) B iX1 0 rfl rfl 5 (by decide) (by decide +kernel) rfl rfl dX1_findMost_15 ?_
            refine ww_iload_n B dX1_findMost_18 2 rfl ?_
            refine ww_bipush B dX1_findMost_19 (v := 32) (by decide) ?_
            refine ww_imul B dX1_findMost_21 ?_
            refine ww_iload_n B dX1_findMost_22 3 rfl ?_
            refine ww_iadd B dX1_findMost_23 ?_
            refine ww_aload_n B dX1_findMost_24 0 rfl ?_
            refine ww_iload_n B dX1_findMost_25 2 rfl ?_
            refine ww_iload_n B dX1_findMost_26 3 rfl ?_
            obtain ⟨q_27, hq_27, h⟩ := og_b h
            refine ww_ci0 B (k' := 0) (n' := 0) rfl rfl [0, 1, 2, 3, 6] [4, 5] (wr := [(a_hullOf, .inl (cI, 5, .inl f_hullOf)), (a_nameOf, .inl (cI, 6, .inl f_nameOf))]) (st := [.int ((v2 * 32) + v3), .ref a_best]) rfl rfl (by decide) (rr_V B (c_X1_bestGain l D cI cZ a_t a_port a_best a_choice a_port_worth b_left a_nameOf a_hullOf b_port_may b_port_voyage b_port_luck b_port_rank f_best f_choice f_port_worth v2 v3 hq_27) gX1_findMost_X1_bestGain rfl rfl rfl (N := 2) rfl (by decide +kernel) ⟨Nat.le_of_ble_eq_true rfl, Nat.le_of_ble_eq_true rfl⟩ rfl dX1_findMost_27 0 rfl rfl (Nat.le_of_ble_eq_true rfl) ⟨Nat.le_of_ble_eq_true rfl, Nat.le_of_ble_eq_true rfl⟩) (ws' := [(a_hullOf, .inl (cI, 5, .inl f_hullOf)), (a_nameOf, .inl (cI, 6, .inl f_nameOf)), (a_t, .inr (1, [.ref a_port, .ref a_choice, .ref b_left, .ref a_nameOf, .ref a_hullOf, .ref a_best])), (a_port, .inr (3, [.ref b_port_may, .ref b_port_voyage, .ref b_port_luck, .ref b_port_rank, .ref a_port_worth])), (a_best, .inl (cI, 224, .inl f_best)), (a_choice, .inl (cI, 6, .inl f_choice)), (a_port_worth, .inl (cI, 30, .inl f_port_worth))]) rfl ?_
            obtain ⟨q_30, hq_30, h⟩ := og_b h
            refine ww_cvM B (k' := 0) (n' := 0) rfl rfl [4] [0, 1, 2, 3, 5, 6] (wr := [(a_hullOf, .inl (cI, 5, .inl f_hullOf)), (a_nameOf, .inl (cI, 6, .inl f_nameOf)), (a_t, .inr (1, [.ref a_port, .ref a_choice, .ref b_left, .ref a_nameOf, .ref a_hullOf, .ref a_best])), (a_port, .inr (3, [.ref b_port_may, .ref b_port_voyage, .ref b_port_luck, .ref b_port_rank, .ref a_port_worth])), (a_choice, .inl (cI, 6, .inl f_choice)), (a_port_worth, .inl (cI, 30, .inl f_port_worth))]) (st := []) rfl rfl (by decide) (rr_SN B (c_X7_put l D cI cZ a_best 224 f_best ((v2 * 32) + v3) q_27 hq_30) gX1_findMost_X7_put_n48 rfl rfl rfl (by decide +kernel) (by decide +kernel) (by decide +kernel) (N := 3) rfl (by decide +kernel) ⟨Nat.le_of_ble_eq_true rfl, Nat.le_of_ble_eq_true rfl⟩ rfl dX1_findMost_30 (Nat.le_of_ble_eq_true rfl) ⟨Nat.le_of_ble_eq_true rfl, Nat.le_of_ble_eq_true rfl⟩) (ws' := [(a_hullOf, .inl (cI, 5, .inl f_hullOf)), (a_nameOf, .inl (cI, 6, .inl f_nameOf)), (a_t, .inr (1, [.ref a_port, .ref a_choice, .ref b_left, .ref a_nameOf, .ref a_hullOf, .ref a_best])), (a_port, .inr (3, [.ref b_port_may, .ref b_port_voyage, .ref b_port_luck, .ref b_port_rank, .ref a_port_worth])), (a_choice, .inl (cI, 6, .inl f_choice)), (a_port_worth, .inl (cI, 30, .inl f_port_worth)), (a_best, .inl (cI, 224, .inl q_30))]) rfl ?_
            obtain ⟨v3_33, ev3_33⟩ : ∃ y : Int32, y = (v3 + 1) := ⟨_, rfl⟩
            refine ww_iinc B dX1_findMost_33 3 rfl (v := v3_33) (by rw [ev3_33]; rfl) (by decide) (lv' := [(3, .int v3_33), (0, .ref a_t), (1, .int v1), (2, .int v2)]) rfl ?_
            replace h := og_l ev3_33 h
            refine ww_goto B 8 dX1_findMost_36 (by decide) ?_
            refine ww_sub (ws' := [(a_t, .inr (1, [.ref a_port, .ref a_choice, .ref b_left, .ref a_nameOf, .ref a_hullOf, .ref a_best])), (a_port, .inr (3, [.ref b_port_may, .ref b_port_voyage, .ref b_port_luck, .ref b_port_rank, .ref a_port_worth])), (a_best, .inl (cI, 224, .inl q_30)), (a_choice, .inl (cI, 6, .inl f_choice)), (a_hullOf, .inl (cI, 5, .inl f_hullOf)), (a_nameOf, .inl (cI, 6, .inl f_nameOf)), (a_port_worth, .inl (cI, 30, .inl f_port_worth))]) [2, 3, 6, 4, 0, 1, 5] rfl (by decide) ?_
            refine ww_lsel (lv' := [(0, .ref a_t), (1, .int v1), (2, .int v2), (3, .int v3_33)]) [1, 2, 3, 0] rfl ?_
            exact ih_8 _ _ _ _ _ _ h
      intro v1 v2 f_best f_hullOf f_nameOf h
      replace h : (if v2 < 0 then ((m_X1_findMost_49 f_choice f_port_worth 1000000 v1 0 f_best f_hullOf f_nameOf)) else ((m_X1_findMost_8 (m_X1_findMost_2 f_choice f_port_worth fuel_2) f_choice f_port_worth 1000000 v1 v2 0 f_best f_hullOf f_nameOf)) : Option ((Nat → Int32) × (Nat → Int32) × (Nat → Int32))) = some res := h
      refine ww_iload_n B dX1_findMost_2 2 rfl ?_
      refine ww_if_lt B 45 dX1_findMost_3 (by decide) (fun c_3 => ?_) (fun c_3 => ?_)
      · replace h := og_t c_3 h
        refine ww_iload_n B dX1_findMost_45 1 rfl ?_
        refine ww_istore_n B dX1_findMost_46 (lv' := [(2, .int v1), (0, .ref a_t), (1, .int v1)]) (by decide) rfl ?_
        refine ww_iconst B dX1_findMost_47 (v := 0) (by decide) ?_
        refine ww_istore_n B dX1_findMost_48 (lv' := [(3, .int 0), (2, .int v1), (0, .ref a_t), (1, .int v1)]) (by decide) rfl ?_
        refine ww_lsel (lv' := [(0, .ref a_t), (2, .int v1), (3, .int 0)]) [2, 1, 0] rfl ?_
        exact cut_49 _ _ _ _ _ _ h
      · replace h := og_f c_3 h
        refine ww_iconst B dX1_findMost_6 (v := 0) (by decide) ?_
        refine ww_istore_n B dX1_findMost_7 (lv' := [(3, .int 0), (0, .ref a_t), (1, .int v1), (2, .int v2)]) (by decide) rfl ?_
        refine ww_lsel (lv' := [(0, .ref a_t), (1, .int v1), (2, .int v2), (3, .int 0)]) [1, 2, 3, 0] rfl ?_
        exact cut_8 _ _ _ _ _ _ _ h
  refine ww_iconst B dX1_findMost_0 (v := 5) (by decide) ?_
  refine ww_istore_n B dX1_findMost_1 (lv' := [(2, .int 5), (0, .ref a_t), (1, .int v1)]) (by decide) rfl ?_
  refine ww_lsel (lv' := [(0, .ref a_t), (1, .int v1), (2, .int 5)]) [1, 2, 0] rfl ?_
  exact cut_2 _ _ _ _ _ _ h
noncomputable def m_X1_firstAsking_30 (k2 : Int32 → Option Int32) (f_left : (Nat → Int32)) (f_nameOf : (Nat → Int32)) (v1 : Int32) : Option Int32 := ogl (v1 + 1) (fun (v1_30 : Int32) => (k2 v1_30))
noncomputable def m_X1_firstAsking_2b (k2 : Int32 → Option Int32) (f_left : (Nat → Int32)) (f_nameOf : (Nat → Int32)) (v1 : Int32) : Option Int32 := if 6 ≤ v1 then (some (-6)) else (ogi v1 6 (if (f_nameOf (Int32.toNatClampNeg v1)) = (-6) then (ogi v1 6 (if (f_left (Int32.toNatClampNeg v1)) = 0 then ((m_X1_firstAsking_30 k2 f_left f_nameOf v1)) else (some v1))) else ((m_X1_firstAsking_30 k2 f_left f_nameOf v1))))
noncomputable def m_X1_firstAsking_2 (f_left : (Nat → Int32)) (f_nameOf : (Nat → Int32)) (fuel : Nat) : Int32 → Option Int32 := Nat.rec (fun _ => none) (fun _ k2 => m_X1_firstAsking_2b k2 f_left f_nameOf) fuel
noncomputable def m_X1_firstAsking (f_left : (Nat → Int32)) (f_nameOf : (Nat → Int32)) : Option Int32 := (m_X1_firstAsking_2 f_left f_nameOf 1000000 0)
set_option maxHeartbeats 4000000 in
set_option maxRecDepth 100000 in
theorem c_X1_firstAsking (l : Launch) (D : va_G) (cI cZ : ClassId) (a_t a_left a_nameOf b_port b_choice b_hullOf b_best : Nat) (f_left : (Nat → Int32)) (f_nameOf : (Nat → Int32)) {res : Int32} (h : m_X1_firstAsking f_left f_nameOf = some res) : CT l yX1_firstAsking wsX1_firstAsking ({ frames := 0, cells := 0, slots := 0, locals := 0 } : Room) D cI cZ [.ref a_t] [(a_t, .inr (1, [.ref b_port, .ref b_choice, .ref a_left, .ref a_nameOf, .ref b_hullOf, .ref b_best])), (a_left, .inl (cI, 6, .inl f_left)), (a_nameOf, .inl (cI, 6, .inl f_nameOf))] (QI D [(a_t, .inr (1, [.ref b_port, .ref b_choice, .ref a_left, .ref a_nameOf, .ref b_hullOf, .ref b_best])), (a_left, .inl (cI, 6, .inl f_left)), (a_nameOf, .inl (cI, 6, .inl f_nameOf))] (fun (r : Int32) (_ : Unit) => r = res) (fun (u : Unit) => [(a_t, .inr (1, [.ref b_port, .ref b_choice, .ref a_left, .ref a_nameOf, .ref b_hullOf, .ref b_best])), (a_left, .inl (cI, 6, .inl f_left)), (a_nameOf, .inl (cI, 6, .inl f_nameOf))])) 0 0 := by
  have h : ((m_X1_firstAsking_2 f_left f_nameOf 1000000 0) : Option Int32) = some res := h
  refine ct_entry (cc := cX1_firstAsking) (nl := 2) (ret := (some .int)) (own := RX1) (lv0 := [(0, .ref a_t)]) (by decide) rfl rfl (Nat.le_of_ble_eq_true rfl) rfl ?_
  intro p e s m args below meth c A Q hA hQ hr hnm B
  have iX1 : ∀ w ∈ wsX10, w ∈ wsX1_firstAsking := by decide +kernel
  have cut_2 : ∀ (fuel : Nat) (v1 : Int32), m_X1_firstAsking_2 f_left f_nameOf fuel v1 = some res → WW p l e (headSpec wsX1_firstAsking ({ frames := 0, cells := 0, slots := 0, locals := 0 } : Room)).room s m args below meth c D A 2 0 0 Q [(a_t, .inr (1, [.ref b_port, .ref b_choice, .ref a_left, .ref a_nameOf, .ref b_hullOf, .ref b_best])), (a_left, .inl (cI, 6, .inl f_left)), (a_nameOf, .inl (cI, 6, .inl f_nameOf))] [(0, .ref a_t), (1, .int v1)] [] 2 := by
    intro fuel_2
    induction fuel_2 with
    | zero => intro v1 h; exact og_0 h
    | succ fuel_2 ih_2 =>
      have cut_30 : ∀ (v1 : Int32), m_X1_firstAsking_30 (m_X1_firstAsking_2 f_left f_nameOf fuel_2) f_left f_nameOf v1 = some res → WW p l e (headSpec wsX1_firstAsking ({ frames := 0, cells := 0, slots := 0, locals := 0 } : Room)).room s m args below meth c D A 2 0 0 Q [(a_t, .inr (1, [.ref b_port, .ref b_choice, .ref a_left, .ref a_nameOf, .ref b_hullOf, .ref b_best])), (a_left, .inl (cI, 6, .inl f_left)), (a_nameOf, .inl (cI, 6, .inl f_nameOf))] [(0, .ref a_t), (1, .int v1)] [] 30 := by
        intro v1 h
        replace h : (ogl (v1 + 1) (fun (v1_30 : Int32) => ((m_X1_firstAsking_2 f_left f_nameOf fuel_2) v1_30)) : Option Int32) = some res := h
        obtain ⟨v1_30, ev1_30⟩ : ∃ y : Int32, y = (v1 + 1) := ⟨_, rfl⟩
        refine ww_iinc B dX1_firstAsking_30 1 rfl (v := v1_30) (by rw [ev1_30]; rfl) (by decide) (lv' := [(1, .int v1_30), (0, .ref a_t)]) rfl ?_
        replace h := og_l ev1_30 h
        refine ww_goto B 2 dX1_firstAsking_33 (by decide) ?_
        refine ww_lsel (lv' := [(0, .ref a_t), (1, .int v1_30)]) [1, 0] rfl ?_
        exact ih_2 _ h
      intro v1 h
      replace h : (if 6 ≤ v1 then (some (-6)) else (ogi v1 6 (if (f_nameOf (Int32.toNatClampNeg v1)) = (-6) then (ogi v1 6 (if (f_left (Int32.toNatClampNeg v1)) = 0 then ((m_X1_firstAsking_30 (m_X1_firstAsking_2 f_left f_nameOf fuel_2) f_left f_nameOf v1)) else (some v1))) else ((m_X1_firstAsking_30 (m_X1_firstAsking_2 f_left f_nameOf fuel_2) f_left f_nameOf v1)))) : Option Int32) = some res := h
      refine ww_iload_n B dX1_firstAsking_2 1 rfl ?_
      refine ww_bipush B dX1_firstAsking_3 (v := 6) (by decide) ?_
      refine ww_icmp_ge B 36 dX1_firstAsking_5 (by decide) (fun c_5 => ?_) (fun c_5 => ?_)
      · replace h := og_t c_5 h
        refine ww_bipush B dX1_firstAsking_36 (v := (-6)) (by decide) ?_
        exact ww_iret B hA hQ hr dX1_firstAsking_38 () [0, 1, 2] rfl (by decide) (og_s h).symm
      · replace h := og_f c_5 h
        refine ww_aload_n B dX1_firstAsking_8 0 rfl ?_
        refine ww_get (ci := 1) (T := TX1) (C := RX1) (N := 6) B iX1 0 rfl rfl 3 (by decide) (by decide +kernel) rfl rfl dX1_firstAsking_9 ?_
        refine ww_iload_n B dX1_firstAsking_12 1 rfl ?_
        obtain ⟨i_13, h⟩ := og_i h
        refine ww_iald B 2 rfl i_13 dX1_firstAsking_13 ?_
        refine ww_bipush B dX1_firstAsking_14 (v := (-6)) (by decide) ?_
        refine ww_icmp_ne B 30 dX1_firstAsking_16 (by decide) (fun c_16 => ?_) (fun c_16 => ?_)
        · replace h := og_f c_16 h
          exact cut_30 _ h
        · replace h := og_t c_16 h
          refine ww_aload_n B dX1_firstAsking_19 0 rfl ?_
          refine ww_get (ci := 1) (T := TX1) (C := RX1) (N := 6) B iX1 0 rfl rfl 2 (by decide) (by decide +kernel) rfl rfl dX1_firstAsking_20 ?_
          refine ww_iload_n B dX1_firstAsking_23 1 rfl ?_
          obtain ⟨i_24, h⟩ := og_i h
          refine ww_iald B 1 rfl i_24 dX1_firstAsking_24 ?_
          refine ww_if_eq B 30 dX1_firstAsking_25 (by decide) (fun c_25 => ?_) (fun c_25 => ?_)
          · replace h := og_t c_25 h
            exact cut_30 _ h
          · replace h := og_f c_25 h
            refine ww_iload_n B dX1_firstAsking_28 1 rfl ?_
            exact ww_iret B hA hQ hr dX1_firstAsking_29 () [0, 1, 2] rfl (by decide) (og_s h).symm
  refine ww_iconst B dX1_firstAsking_0 (v := 0) (by decide) ?_
  refine ww_istore_n B dX1_firstAsking_1 (lv' := [(1, .int 0), (0, .ref a_t)]) (by decide) rfl ?_
  refine ww_lsel (lv' := [(0, .ref a_t), (1, .int 0)]) [1, 0] rfl ?_
  exact cut_2 _ _ h
noncomputable def m_X1_findStable_13b (k13 : Int32 → (Nat → Int32) → (Nat → Int32) → (Nat → Int32) → Option ((Nat → Int32) × (Nat → Int32) × (Nat → Int32))) (f_choice : (Nat → Int32)) (f_port_rank : (Nat → Int32)) (f_port_worth : (Nat → Int32)) (v1 : Int32) (f_hullOf : (Nat → Int32)) (f_left : (Nat → Int32)) (f_nameOf : (Nat → Int32)) : Option ((Nat → Int32) × (Nat → Int32) × (Nat → Int32)) := if 30 ≤ v1 then (some (f_hullOf, f_left, f_nameOf)) else (ogb (m_X1_firstAsking f_left f_nameOf) (fun q_20 => if q_20 = (-6) then (some (f_hullOf, f_left, f_nameOf)) else (ogb (m_X1_favourite f_left f_port_worth q_20) (fun q_35 => ogb (m_X1_askFor f_port_rank f_hullOf f_left f_nameOf q_20 q_35) (fun q_38 => ogl (v1 + 1) (fun (v1_41 : Int32) => (k13 v1_41 q_38.1 q_38.2.1 q_38.2.2)))))))
noncomputable def m_X1_findStable_13 (f_choice : (Nat → Int32)) (f_port_rank : (Nat → Int32)) (f_port_worth : (Nat → Int32)) (fuel : Nat) : Int32 → (Nat → Int32) → (Nat → Int32) → (Nat → Int32) → Option ((Nat → Int32) × (Nat → Int32) × (Nat → Int32)) := Nat.rec (fun _ _ _ _ => none) (fun _ k13 => m_X1_findStable_13b k13 f_choice f_port_rank f_port_worth) fuel
noncomputable def m_X1_findStable (f_choice : (Nat → Int32)) (f_port_rank : (Nat → Int32)) (f_port_worth : (Nat → Int32)) (f_hullOf : (Nat → Int32)) (f_left : (Nat → Int32)) (f_nameOf : (Nat → Int32)) : Option ((Nat → Int32) × (Nat → Int32) × (Nat → Int32)) := ogb (m_X7_copyRow 6 6 f_choice f_left) (fun q_8 => (m_X1_findStable_13 f_choice f_port_rank f_port_worth 1000000 0 f_hullOf q_8 f_nameOf))
set_option maxHeartbeats 4000000 in
set_option maxRecDepth 100000 in
theorem c_X1_findStable (l : Launch) (D : va_G) (cI cZ : ClassId) (a_t a_port a_choice a_hullOf a_left a_nameOf a_port_rank a_port_worth b_best b_port_may b_port_voyage b_port_luck : Nat) (f_choice : (Nat → Int32)) (f_hullOf : (Nat → Int32)) (f_left : (Nat → Int32)) (f_nameOf : (Nat → Int32)) (f_port_rank : (Nat → Int32)) (f_port_worth : (Nat → Int32)) {res : ((Nat → Int32) × (Nat → Int32) × (Nat → Int32))} (h : m_X1_findStable f_choice f_port_rank f_port_worth f_hullOf f_left f_nameOf = some res) : CT l yX1_findStable wsX1_findStable ({ frames := 4, cells := 0, slots := 0, locals := 91 } : Room) D cI cZ [.ref a_t] [(a_t, .inr (1, [.ref a_port, .ref a_choice, .ref a_left, .ref a_nameOf, .ref a_hullOf, .ref b_best])), (a_port, .inr (3, [.ref b_port_may, .ref b_port_voyage, .ref b_port_luck, .ref a_port_rank, .ref a_port_worth])), (a_choice, .inl (cI, 6, .inl f_choice)), (a_hullOf, .inl (cI, 5, .inl f_hullOf)), (a_left, .inl (cI, 6, .inl f_left)), (a_nameOf, .inl (cI, 6, .inl f_nameOf)), (a_port_rank, .inl (cI, 5, .inl f_port_rank)), (a_port_worth, .inl (cI, 30, .inl f_port_worth))] (QV D [(a_t, .inr (1, [.ref a_port, .ref a_choice, .ref a_left, .ref a_nameOf, .ref a_hullOf, .ref b_best])), (a_port, .inr (3, [.ref b_port_may, .ref b_port_voyage, .ref b_port_luck, .ref a_port_rank, .ref a_port_worth])), (a_choice, .inl (cI, 6, .inl f_choice)), (a_hullOf, .inl (cI, 5, .inl f_hullOf)), (a_left, .inl (cI, 6, .inl f_left)), (a_nameOf, .inl (cI, 6, .inl f_nameOf)), (a_port_rank, .inl (cI, 5, .inl f_port_rank)), (a_port_worth, .inl (cI, 30, .inl f_port_worth))] (fun (u : (Nat → Int32) × (Nat → Int32) × (Nat → Int32)) => u = res) (fun (u : (Nat → Int32) × (Nat → Int32) × (Nat → Int32)) => [(a_t, .inr (1, [.ref a_port, .ref a_choice, .ref a_left, .ref a_nameOf, .ref a_hullOf, .ref b_best])), (a_port, .inr (3, [.ref b_port_may, .ref b_port_voyage, .ref b_port_luck, .ref a_port_rank, .ref a_port_worth])), (a_choice, .inl (cI, 6, .inl f_choice)), (a_hullOf, .inl (cI, 5, .inl u.1)), (a_left, .inl (cI, 6, .inl u.2.1)), (a_nameOf, .inl (cI, 6, .inl u.2.2)), (a_port_rank, .inl (cI, 5, .inl f_port_rank)), (a_port_worth, .inl (cI, 30, .inl f_port_worth))])) 0 0 := by
  have h : (ogb (m_X7_copyRow 6 6 f_choice f_left) (fun q_8 => (m_X1_findStable_13 f_choice f_port_rank f_port_worth 1000000 0 f_hullOf q_8 f_nameOf)) : Option ((Nat → Int32) × (Nat → Int32) × (Nat → Int32))) = some res := h
  refine ct_entry (cc := cX1_findStable) (nl := 3) (ret := none) (own := RX1) (lv0 := [(0, .ref a_t)]) (by decide) rfl rfl (Nat.le_of_ble_eq_true rfl) rfl ?_
  intro p e s m args below meth c A Q hA hQ hr hnm B
  have iX1 : ∀ w ∈ wsX10, w ∈ wsX1_findStable := by decide +kernel
  have cut_13 : ∀ (fuel : Nat) (v1 : Int32) (f_hullOf : (Nat → Int32)) (f_left : (Nat → Int32)) (f_nameOf : (Nat → Int32)), m_X1_findStable_13 f_choice f_port_rank f_port_worth fuel v1 f_hullOf f_left f_nameOf = some res → WW p l e (headSpec wsX1_findStable ({ frames := 4, cells := 0, slots := 0, locals := 91 } : Room)).room s m args below meth c D A 3 0 0 Q [(a_t, .inr (1, [.ref a_port, .ref a_choice, .ref a_left, .ref a_nameOf, .ref a_hullOf, .ref b_best])), (a_port, .inr (3, [.ref b_port_may, .ref b_port_voyage, .ref b_port_luck, .ref a_port_rank, .ref a_port_worth])), (a_choice, .inl (cI, 6, .inl f_choice)), (a_hullOf, .inl (cI, 5, .inl f_hullOf)), (a_left, .inl (cI, 6, .inl f_left)), (a_nameOf, .inl (cI, 6, .inl f_nameOf)), (a_port_rank, .inl (cI, 5, .inl f_port_rank)), (a_port_worth, .inl (cI, 30, .inl f_port_worth))] [(0, .ref a_t), (1, .int v1)] [] 13 := by
    intro fuel_13
    induction fuel_13 with
    | zero => intro v1 f_hullOf f_left f_nameOf h; exact og_0 h
    | succ fuel_13 ih_13 =>
      intro v1 f_hullOf f_left f_nameOf h
      replace h : (if 30 ≤ v1 then (some (f_hullOf, f_left, f_nameOf)) else (ogb (m_X1_firstAsking f_left f_nameOf) (fun q_20 => if q_20 = (-6) then (some (f_hullOf, f_left, f_nameOf)) else (ogb (m_X1_favourite f_left f_port_worth q_20) (fun q_35 => ogb (m_X1_askFor f_port_rank f_hullOf f_left f_nameOf q_20 q_35) (fun q_38 => ogl (v1 + 1) (fun (v1_41 : Int32) => ((m_X1_findStable_13 f_choice f_port_rank f_port_worth fuel_13) v1_41 q_38.1 q_38.2.1 q_38.2.2))))))) : Option ((Nat → Int32) × (Nat → Int32) × (Nat → Int32))) = some res := h
      refine ww_iload_n B dX1_findStable_13 1 rfl ?_
      refine ww_bipush B dX1_findStable_14 (v := 30) (by decide) ?_
      refine ww_icmp_ge B 47 dX1_findStable_16 (by decide) (fun c_16 => ?_) (fun c_16 => ?_)
      · replace h := og_t c_16 h
        exact ww_vret B hA hQ hr dX1_findStable_47 (f_hullOf, f_left, f_nameOf) [0, 1, 2, 3, 4, 5, 6, 7] rfl (by decide) (og_s h).symm
      · replace h := og_f c_16 h
        refine ww_aload_n B dX1_findStable_19 0 rfl ?_
        obtain ⟨q_20, hq_20, h⟩ := og_b h
        refine ww_ci0 B (k' := 0) (n' := 0) rfl rfl [0, 4, 5] [1, 2, 3, 6, 7] (wr := [(a_port, .inr (3, [.ref b_port_may, .ref b_port_voyage, .ref b_port_luck, .ref a_port_rank, .ref a_port_worth])), (a_choice, .inl (cI, 6, .inl f_choice)), (a_hullOf, .inl (cI, 5, .inl f_hullOf)), (a_port_rank, .inl (cI, 5, .inl f_port_rank)), (a_port_worth, .inl (cI, 30, .inl f_port_worth))]) (st := []) rfl rfl (by decide) (rr_V B (c_X1_firstAsking l D cI cZ a_t a_left a_nameOf a_port a_choice a_hullOf b_best f_left f_nameOf hq_20) gX1_findStable_X1_firstAsking rfl rfl rfl (N := 0) rfl (by decide +kernel) ⟨Nat.le_of_ble_eq_true rfl, Nat.le_of_ble_eq_true rfl⟩ rfl dX1_findStable_20 0 rfl rfl (Nat.le_of_ble_eq_true rfl) ⟨Nat.le_of_ble_eq_true rfl, Nat.le_of_ble_eq_true rfl⟩) (ws' := [(a_port, .inr (3, [.ref b_port_may, .ref b_port_voyage, .ref b_port_luck, .ref a_port_rank, .ref a_port_worth])), (a_choice, .inl (cI, 6, .inl f_choice)), (a_hullOf, .inl (cI, 5, .inl f_hullOf)), (a_port_rank, .inl (cI, 5, .inl f_port_rank)), (a_port_worth, .inl (cI, 30, .inl f_port_worth)), (a_t, .inr (1, [.ref a_port, .ref a_choice, .ref a_left, .ref a_nameOf, .ref a_hullOf, .ref b_best])), (a_left, .inl (cI, 6, .inl f_left)), (a_nameOf, .inl (cI, 6, .inl f_nameOf))]) rfl ?_
        refine ww_istore_n B dX1_findStable_23 (lv' := [(2, .int q_20), (0, .ref a_t), (1, .int v1)]) (by decide) rfl ?_
        refine ww_iload_n B dX1_findStable_24 0 rfl ?_
        refine ww_bipush B dX1_findStable_25 (v := (-6)) (by decide) ?_
        refine ww_icmp_ne B 31 dX1_findStable_27 (by decide) (fun c_27 => ?_) (fun c_27 => ?_)
        · replace h := og_f c_27 h
          refine ww_aload_n B dX1_findStable_31 1 rfl ?_
          refine ww_iload_n B dX1_findStable_32 0 rfl ?_
          refine ww_aload_n B dX1_findStable_33 1 rfl ?_
          refine ww_iload_n B dX1_findStable_34 0 rfl ?_
          obtain ⟨q_35, hq_35, h⟩ := og_b h
          refine ww_ci0 B (k' := 0) (n' := 0) rfl rfl [5, 0, 6, 4] [1, 2, 3, 7] (wr := [(a_choice, .inl (cI, 6, .inl f_choice)), (a_hullOf, .inl (cI, 5, .inl f_hullOf)), (a_port_rank, .inl (cI, 5, .inl f_port_rank)), (a_nameOf, .inl (cI, 6, .inl f_nameOf))]) (st := [.int q_20, .ref a_t]) rfl rfl (by decide) (rr_V B (c_X1_favourite l D cI cZ a_t a_port a_left a_port_worth a_choice a_nameOf a_hullOf b_best b_port_may b_port_voyage b_port_luck a_port_rank f_left f_port_worth q_20 hq_35) gX1_findStable_X1_favourite rfl rfl rfl (N := 1) rfl (by decide +kernel) ⟨Nat.le_of_ble_eq_true rfl, Nat.le_of_ble_eq_true rfl⟩ rfl dX1_findStable_35 0 rfl rfl (Nat.le_of_ble_eq_true rfl) ⟨Nat.le_of_ble_eq_true rfl, Nat.le_of_ble_eq_true rfl⟩) (ws' := [(a_choice, .inl (cI, 6, .inl f_choice)), (a_hullOf, .inl (cI, 5, .inl f_hullOf)), (a_port_rank, .inl (cI, 5, .inl f_port_rank)), (a_nameOf, .inl (cI, 6, .inl f_nameOf)), (a_t, .inr (1, [.ref a_port, .ref a_choice, .ref a_left, .ref a_nameOf, .ref a_hullOf, .ref b_best])), (a_port, .inr (3, [.ref b_port_may, .ref b_port_voyage, .ref b_port_luck, .ref a_port_rank, .ref a_port_worth])), (a_left, .inl (cI, 6, .inl f_left)), (a_port_worth, .inl (cI, 30, .inl f_port_worth))]) rfl ?_
          obtain ⟨q_38, hq_38, h⟩ := og_b h
          refine ww_cvM B (k' := 0) (n' := 0) rfl rfl [4, 5, 1, 6, 3, 2] [0, 7] (wr := [(a_choice, .inl (cI, 6, .inl f_choice)), (a_port_worth, .inl (cI, 30, .inl f_port_worth))]) (st := []) rfl rfl (by decide) (rr_V B (c_X1_askFor l D cI cZ a_t a_port a_hullOf a_left a_nameOf a_port_rank a_choice b_best b_port_may b_port_voyage b_port_luck a_port_worth f_hullOf f_left f_nameOf f_port_rank q_20 q_35 hq_38) gX1_findStable_X1_askFor rfl rfl rfl (N := 2) rfl (by decide +kernel) ⟨Nat.le_of_ble_eq_true rfl, Nat.le_of_ble_eq_true rfl⟩ rfl dX1_findStable_38 0 rfl rfl (Nat.le_of_ble_eq_true rfl) ⟨Nat.le_of_ble_eq_true rfl, Nat.le_of_ble_eq_true rfl⟩) (ws' := [(a_choice, .inl (cI, 6, .inl f_choice)), (a_port_worth, .inl (cI, 30, .inl f_port_worth)), (a_t, .inr (1, [.ref a_port, .ref a_choice, .ref a_left, .ref a_nameOf, .ref a_hullOf, .ref b_best])), (a_port, .inr (3, [.ref b_port_may, .ref b_port_voyage, .ref b_port_luck, .ref a_port_rank, .ref a_port_worth])), (a_hullOf, .inl (cI, 5, .inl q_38.1)), (a_left, .inl (cI, 6, .inl q_38.2.1)), (a_nameOf, .inl (cI, 6, .inl q_38.2.2)), (a_port_rank, .inl (cI, 5, .inl f_port_rank))]) rfl ?_
          obtain ⟨v1_41, ev1_41⟩ : ∃ y : Int32, y = (v1 + 1) := ⟨_, rfl⟩
          refine ww_iinc B dX1_findStable_41 2 rfl (v := v1_41) (by rw [ev1_41]; rfl) (by decide) (lv' := [(1, .int v1_41), (2, .int q_20), (0, .ref a_t)]) rfl ?_
          replace h := og_l ev1_41 h
          refine ww_goto B 13 dX1_findStable_44 (by decide) ?_
          refine ww_sub (ws' := [(a_t, .inr (1, [.ref a_port, .ref a_choice, .ref a_left, .ref a_nameOf, .ref a_hullOf, .ref b_best])), (a_port, .inr (3, [.ref b_port_may, .ref b_port_voyage, .ref b_port_luck, .ref a_port_rank, .ref a_port_worth])), (a_choice, .inl (cI, 6, .inl f_choice)), (a_hullOf, .inl (cI, 5, .inl q_38.1)), (a_left, .inl (cI, 6, .inl q_38.2.1)), (a_nameOf, .inl (cI, 6, .inl q_38.2.2)), (a_port_rank, .inl (cI, 5, .inl f_port_rank)), (a_port_worth, .inl (cI, 30, .inl f_port_worth))]) [2, 3, 0, 4, 5, 6, 7, 1] rfl (by decide) ?_
          refine ww_lsel (lv' := [(0, .ref a_t), (1, .int v1_41)]) [2, 0] rfl ?_
          exact ih_13 _ _ _ _ h
        · replace h := og_t c_27 h
          exact ww_vret B hA hQ hr dX1_findStable_30 (f_hullOf, f_left, f_nameOf) [5, 0, 1, 2, 6, 7, 3, 4] rfl (by decide) (og_s h).symm
  refine ww_aload_n B dX1_findStable_0 0 rfl ?_
  refine ww_get (ci := 1) (T := TX1) (C := RX1) (N := 6) B iX1 0 rfl rfl 1 (by decide) (by decide +kernel) rfl rfl dX1_findStable_1 ?_
  refine ww_aload_n B dX1_findStable_4 0 rfl ?_
  refine ww_get (ci := 1) (T := TX1) (C := RX1) (N := 6) B iX1 0 rfl rfl 2 (by decide) (by decide +kernel) rfl rfl dX1_findStable_5 ?_
  obtain ⟨q_8, hq_8, h⟩ := og_b h
  refine ww_cvM B (k' := 0) (n' := 0) rfl rfl [2, 4] [0, 1, 3, 5, 6, 7] (wr := [(a_t, .inr (1, [.ref a_port, .ref a_choice, .ref a_left, .ref a_nameOf, .ref a_hullOf, .ref b_best])), (a_port, .inr (3, [.ref b_port_may, .ref b_port_voyage, .ref b_port_luck, .ref a_port_rank, .ref a_port_worth])), (a_hullOf, .inl (cI, 5, .inl f_hullOf)), (a_nameOf, .inl (cI, 6, .inl f_nameOf)), (a_port_rank, .inl (cI, 5, .inl f_port_rank)), (a_port_worth, .inl (cI, 30, .inl f_port_worth))]) (st := []) rfl rfl (by decide) (rr_SN B (c_X7_copyRow l D cI cZ a_choice a_left 6 6 f_choice f_left hq_8) gX1_findStable_X7_copyRow_n79 rfl rfl rfl (by decide +kernel) (by decide +kernel) (by decide +kernel) (N := 2) rfl (by decide +kernel) ⟨Nat.le_of_ble_eq_true rfl, Nat.le_of_ble_eq_true rfl⟩ rfl dX1_findStable_8 (Nat.le_of_ble_eq_true rfl) ⟨Nat.le_of_ble_eq_true rfl, Nat.le_of_ble_eq_true rfl⟩) (ws' := [(a_t, .inr (1, [.ref a_port, .ref a_choice, .ref a_left, .ref a_nameOf, .ref a_hullOf, .ref b_best])), (a_port, .inr (3, [.ref b_port_may, .ref b_port_voyage, .ref b_port_luck, .ref a_port_rank, .ref a_port_worth])), (a_hullOf, .inl (cI, 5, .inl f_hullOf)), (a_nameOf, .inl (cI, 6, .inl f_nameOf)), (a_port_rank, .inl (cI, 5, .inl f_port_rank)), (a_port_worth, .inl (cI, 30, .inl f_port_worth)), (a_choice, .inl (cI, 6, .inl f_choice)), (a_left, .inl (cI, 6, .inl q_8))]) rfl ?_
  refine ww_iconst B dX1_findStable_11 (v := 0) (by decide) ?_
  refine ww_istore_n B dX1_findStable_12 (lv' := [(1, .int 0), (0, .ref a_t)]) (by decide) rfl ?_
  refine ww_sub (ws' := [(a_t, .inr (1, [.ref a_port, .ref a_choice, .ref a_left, .ref a_nameOf, .ref a_hullOf, .ref b_best])), (a_port, .inr (3, [.ref b_port_may, .ref b_port_voyage, .ref b_port_luck, .ref a_port_rank, .ref a_port_worth])), (a_choice, .inl (cI, 6, .inl f_choice)), (a_hullOf, .inl (cI, 5, .inl f_hullOf)), (a_left, .inl (cI, 6, .inl q_8)), (a_nameOf, .inl (cI, 6, .inl f_nameOf)), (a_port_rank, .inl (cI, 5, .inl f_port_rank)), (a_port_worth, .inl (cI, 30, .inl f_port_worth))]) [0, 1, 6, 2, 7, 3, 4, 5] rfl (by decide) ?_
  refine ww_lsel (lv' := [(0, .ref a_t), (1, .int 0)]) [1, 0] rfl ?_
  exact cut_13 _ _ _ _ _ h
noncomputable def m_X1_firstPair_64 (k2 : Int32 → Option Int32) (k10 : Int32 → Int32 → Option Int32) (f_choice : (Nat → Int32)) (f_hullOf : (Nat → Int32)) (f_nameOf : (Nat → Int32)) (f_port_rank : (Nat → Int32)) (f_port_worth : (Nat → Int32)) (v1 : Int32) (v2 : Int32) : Option Int32 := ogl (v2 + 1) (fun (v2_64 : Int32) => (k10 v1 v2_64))
noncomputable def m_X1_firstPair_10b (k2 : Int32 → Option Int32) (k10 : Int32 → Int32 → Option Int32) (f_choice : (Nat → Int32)) (f_hullOf : (Nat → Int32)) (f_nameOf : (Nat → Int32)) (f_port_rank : (Nat → Int32)) (f_port_worth : (Nat → Int32)) (v1 : Int32) (v2 : Int32) : Option Int32 := if 5 ≤ v2 then (ogl (v1 + 1) (fun (v1_70 : Int32) => (k2 v1_70))) else (ogi v1 6 (ogb (m_X7_hasBit (f_choice (Int32.toNatClampNeg v1)) v2) (fun q_22 => if q_22 = 0 then ((m_X1_firstPair_64 k2 k10 f_choice f_hullOf f_nameOf f_port_rank f_port_worth v1 v2)) else (ogi v1 6 (ogb (m_X1_hullPrefers f_port_worth v1 v2 (f_nameOf (Int32.toNatClampNeg v1))) (fun q_37 => if q_37 = 0 then ((m_X1_firstPair_64 k2 k10 f_choice f_hullOf f_nameOf f_port_rank f_port_worth v1 v2)) else (ogi v2 5 (ogb (m_X1_namePrefers f_port_rank v2 v1 (f_hullOf (Int32.toNatClampNeg v2))) (fun q_52 => if q_52 = 0 then ((m_X1_firstPair_64 k2 k10 f_choice f_hullOf f_nameOf f_port_rank f_port_worth v1 v2)) else (some ((v1 * 5) + v2)))))))))))
noncomputable def m_X1_firstPair_10 (k2 : Int32 → Option Int32) (f_choice : (Nat → Int32)) (f_hullOf : (Nat → Int32)) (f_nameOf : (Nat → Int32)) (f_port_rank : (Nat → Int32)) (f_port_worth : (Nat → Int32)) (fuel : Nat) : Int32 → Int32 → Option Int32 := Nat.rec (fun _ _ => none) (fun _ k10 => m_X1_firstPair_10b k2 k10 f_choice f_hullOf f_nameOf f_port_rank f_port_worth) fuel
noncomputable def m_X1_firstPair_2b (k2 : Int32 → Option Int32) (f_choice : (Nat → Int32)) (f_hullOf : (Nat → Int32)) (f_nameOf : (Nat → Int32)) (f_port_rank : (Nat → Int32)) (f_port_worth : (Nat → Int32)) (v1 : Int32) : Option Int32 := if 6 ≤ v1 then (some (-6)) else ((m_X1_firstPair_10 k2 f_choice f_hullOf f_nameOf f_port_rank f_port_worth 1000000 v1 0))
noncomputable def m_X1_firstPair_2 (f_choice : (Nat → Int32)) (f_hullOf : (Nat → Int32)) (f_nameOf : (Nat → Int32)) (f_port_rank : (Nat → Int32)) (f_port_worth : (Nat → Int32)) (fuel : Nat) : Int32 → Option Int32 := Nat.rec (fun _ => none) (fun _ k2 => m_X1_firstPair_2b k2 f_choice f_hullOf f_nameOf f_port_rank f_port_worth) fuel
noncomputable def m_X1_firstPair (f_choice : (Nat → Int32)) (f_hullOf : (Nat → Int32)) (f_nameOf : (Nat → Int32)) (f_port_rank : (Nat → Int32)) (f_port_worth : (Nat → Int32)) : Option Int32 := (m_X1_firstPair_2 f_choice f_hullOf f_nameOf f_port_rank f_port_worth 1000000 0)
set_option maxHeartbeats 4000000 in
set_option maxRecDepth 100000 in
theorem c_X1_firstPair (l : Launch) (D : va_G) (cI cZ : ClassId) (a_t a_port a_choice a_hullOf a_nameOf a_port_rank a_port_worth b_left b_best b_port_may b_port_voyage b_port_luck : Nat) (f_choice : (Nat → Int32)) (f_hullOf : (Nat → Int32)) (f_nameOf : (Nat → Int32)) (f_port_rank : (Nat → Int32)) (f_port_worth : (Nat → Int32)) {res : Int32} (h : m_X1_firstPair f_choice f_hullOf f_nameOf f_port_rank f_port_worth = some res) : CT l yX1_firstPair wsX1_firstPair ({ frames := 3, cells := 0, slots := 0, locals := 68 } : Room) D cI cZ [.ref a_t] [(a_t, .inr (1, [.ref a_port, .ref a_choice, .ref b_left, .ref a_nameOf, .ref a_hullOf, .ref b_best])), (a_port, .inr (3, [.ref b_port_may, .ref b_port_voyage, .ref b_port_luck, .ref a_port_rank, .ref a_port_worth])), (a_choice, .inl (cI, 6, .inl f_choice)), (a_hullOf, .inl (cI, 5, .inl f_hullOf)), (a_nameOf, .inl (cI, 6, .inl f_nameOf)), (a_port_rank, .inl (cI, 5, .inl f_port_rank)), (a_port_worth, .inl (cI, 30, .inl f_port_worth))] (QI D [(a_t, .inr (1, [.ref a_port, .ref a_choice, .ref b_left, .ref a_nameOf, .ref a_hullOf, .ref b_best])), (a_port, .inr (3, [.ref b_port_may, .ref b_port_voyage, .ref b_port_luck, .ref a_port_rank, .ref a_port_worth])), (a_choice, .inl (cI, 6, .inl f_choice)), (a_hullOf, .inl (cI, 5, .inl f_hullOf)), (a_nameOf, .inl (cI, 6, .inl f_nameOf)), (a_port_rank, .inl (cI, 5, .inl f_port_rank)), (a_port_worth, .inl (cI, 30, .inl f_port_worth))] (fun (r : Int32) (_ : Unit) => r = res) (fun (u : Unit) => [(a_t, .inr (1, [.ref a_port, .ref a_choice, .ref b_left, .ref a_nameOf, .ref a_hullOf, .ref b_best])), (a_port, .inr (3, [.ref b_port_may, .ref b_port_voyage, .ref b_port_luck, .ref a_port_rank, .ref a_port_worth])), (a_choice, .inl (cI, 6, .inl f_choice)), (a_hullOf, .inl (cI, 5, .inl f_hullOf)), (a_nameOf, .inl (cI, 6, .inl f_nameOf)), (a_port_rank, .inl (cI, 5, .inl f_port_rank)), (a_port_worth, .inl (cI, 30, .inl f_port_worth))])) 0 0 := by
  have h : ((m_X1_firstPair_2 f_choice f_hullOf f_nameOf f_port_rank f_port_worth 1000000 0) : Option Int32) = some res := h
  refine ct_entry (cc := cX1_firstPair) (nl := 3) (ret := (some .int)) (own := RX1) (lv0 := [(0, .ref a_t)]) (by decide) rfl rfl (Nat.le_of_ble_eq_true rfl) rfl ?_
  intro p e s m args below meth c A Q hA hQ hr hnm B
  have iX1 : ∀ w ∈ wsX10, w ∈ wsX1_firstPair := by decide +kernel
  have cut_2 : ∀ (fuel : Nat) (v1 : Int32), m_X1_firstPair_2 f_choice f_hullOf f_nameOf f_port_rank f_port_worth fuel v1 = some res → WW p l e (headSpec wsX1_firstPair ({ frames := 3, cells := 0, slots := 0, locals := 68 } : Room)).room s m args below meth c D A 3 0 0 Q [(a_t, .inr (1, [.ref a_port, .ref a_choice, .ref b_left, .ref a_nameOf, .ref a_hullOf, .ref b_best])), (a_port, .inr (3, [.ref b_port_may, .ref b_port_voyage, .ref b_port_luck, .ref a_port_rank, .ref a_port_worth])), (a_choice, .inl (cI, 6, .inl f_choice)), (a_hullOf, .inl (cI, 5, .inl f_hullOf)), (a_nameOf, .inl (cI, 6, .inl f_nameOf)), (a_port_rank, .inl (cI, 5, .inl f_port_rank)), (a_port_worth, .inl (cI, 30, .inl f_port_worth))] [(0, .ref a_t), (1, .int v1)] [] 2 := by
    intro fuel_2
    induction fuel_2 with
    | zero => intro v1 h; exact og_0 h
    | succ fuel_2 ih_2 =>
      have cut_10 : ∀ (fuel : Nat) (v1 : Int32) (v2 : Int32), m_X1_firstPair_10 (m_X1_firstPair_2 f_choice f_hullOf f_nameOf f_port_rank f_port_worth fuel_2) f_choice f_hullOf f_nameOf f_port_rank f_port_worth fuel v1 v2 = some res → WW p l e (headSpec wsX1_firstPair ({ frames := 3, cells := 0, slots := 0, locals := 68 } : Room)).room s m args below meth c D A 3 0 0 Q [(a_t, .inr (1, [.ref a_port, .ref a_choice, .ref b_left, .ref a_nameOf, .ref a_hullOf, .ref b_best])), (a_port, .inr (3, [.ref b_port_may, .ref b_port_voyage, .ref b_port_luck, .ref a_port_rank, .ref a_port_worth])), (a_choice, .inl (cI, 6, .inl f_choice)), (a_hullOf, .inl (cI, 5, .inl f_hullOf)), (a_nameOf, .inl (cI, 6, .inl f_nameOf)), (a_port_rank, .inl (cI, 5, .inl f_port_rank)), (a_port_worth, .inl (cI, 30, .inl f_port_worth))] [(0, .ref a_t), (1, .int v1), (2, .int v2)] [] 10 := by
        intro fuel_10
        induction fuel_10 with
        | zero => intro v1 v2 h; exact og_0 h
        | succ fuel_10 ih_10 =>
          have cut_64 : ∀ (v1 : Int32) (v2 : Int32), m_X1_firstPair_64 (m_X1_firstPair_2 f_choice f_hullOf f_nameOf f_port_rank f_port_worth fuel_2) (m_X1_firstPair_10 (m_X1_firstPair_2 f_choice f_hullOf f_nameOf f_port_rank f_port_worth fuel_2) f_choice f_hullOf f_nameOf f_port_rank f_port_worth fuel_10) f_choice f_hullOf f_nameOf f_port_rank f_port_worth v1 v2 = some res → WW p l e (headSpec wsX1_firstPair ({ frames := 3, cells := 0, slots := 0, locals := 68 } : Room)).room s m args below meth c D A 3 0 0 Q [(a_t, .inr (1, [.ref a_port, .ref a_choice, .ref b_left, .ref a_nameOf, .ref a_hullOf, .ref b_best])), (a_port, .inr (3, [.ref b_port_may, .ref b_port_voyage, .ref b_port_luck, .ref a_port_rank, .ref a_port_worth])), (a_choice, .inl (cI, 6, .inl f_choice)), (a_hullOf, .inl (cI, 5, .inl f_hullOf)), (a_nameOf, .inl (cI, 6, .inl f_nameOf)), (a_port_rank, .inl (cI, 5, .inl f_port_rank)), (a_port_worth, .inl (cI, 30, .inl f_port_worth))] [(0, .ref a_t), (1, .int v1), (2, .int v2)] [] 64 := by
            intro v1 v2 h
            replace h : (ogl (v2 + 1) (fun (v2_64 : Int32) => ((m_X1_firstPair_10 (m_X1_firstPair_2 f_choice f_hullOf f_nameOf f_port_rank f_port_worth fuel_2) f_choice f_hullOf f_nameOf f_port_rank f_port_worth fuel_10) v1 v2_64)) : Option Int32) = some res := h
            obtain ⟨v2_64, ev2_64⟩ : ∃ y : Int32, y = (v2 + 1) := ⟨_, rfl⟩
            refine ww_iinc B dX1_firstPair_64 2 rfl (v := v2_64) (by rw [ev2_64]; rfl) (by decide) (lv' := [(2, .int v2_64), (0, .ref a_t), (1, .int v1)]) rfl ?_
            replace h := og_l ev2_64 h
            refine ww_goto B 10 dX1_firstPair_67 (by decide) ?_
            refine ww_lsel (lv' := [(0, .ref a_t), (1, .int v1), (2, .int v2_64)]) [1, 2, 0] rfl ?_
            exact ih_10 _ _ h
          intro v1 v2 h
          replace h : (if 5 ≤ v2 then (ogl (v1 + 1) (fun (v1_70 : Int32) => ((m_X1_firstPair_2 f_choice f_hullOf f_nameOf f_port_rank f_port_worth fuel_2) v1_70))) else (ogi v1 6 (ogb (m_X7_hasBit (f_choice (Int32.toNatClampNeg v1)) v2) (fun q_22 => if q_22 = 0 then ((m_X1_firstPair_64 (m_X1_firstPair_2 f_choice f_hullOf f_nameOf f_port_rank f_port_worth fuel_2) (m_X1_firstPair_10 (m_X1_firstPair_2 f_choice f_hullOf f_nameOf f_port_rank f_port_worth fuel_2) f_choice f_hullOf f_nameOf f_port_rank f_port_worth fuel_10) f_choice f_hullOf f_nameOf f_port_rank f_port_worth v1 v2)) else (ogi v1 6 (ogb (m_X1_hullPrefers f_port_worth v1 v2 (f_nameOf (Int32.toNatClampNeg v1))) (fun q_37 => if q_37 = 0 then ((m_X1_firstPair_64 (m_X1_firstPair_2 f_choice f_hullOf f_nameOf f_port_rank f_port_worth fuel_2) (m_X1_firstPair_10 (m_X1_firstPair_2 f_choice f_hullOf f_nameOf f_port_rank f_port_worth fuel_2) f_choice f_hullOf f_nameOf f_port_rank f_port_worth fuel_10) f_choice f_hullOf f_nameOf f_port_rank f_port_worth v1 v2)) else (ogi v2 5 (ogb (m_X1_namePrefers f_port_rank v2 v1 (f_hullOf (Int32.toNatClampNeg v2))) (fun q_52 => if q_52 = 0 then ((m_X1_firstPair_64 (m_X1_firstPair_2 f_choice f_hullOf f_nameOf f_port_rank f_port_worth fuel_2) (m_X1_firstPair_10 (m_X1_firstPair_2 f_choice f_hullOf f_nameOf f_port_rank f_port_worth fuel_2) f_choice f_hullOf f_nameOf f_port_rank f_port_worth fuel_10) f_choice f_hullOf f_nameOf f_port_rank f_port_worth v1 v2)) else (some ((v1 * 5) + v2))))))))))) : Option Int32) = some res := h
          refine ww_iload_n B dX1_firstPair_10 2 rfl ?_
          refine ww_iconst B dX1_firstPair_11 (v := 5) (by decide) ?_
          refine ww_icmp_ge B 70 dX1_firstPair_12 (by decide) (fun c_12 => ?_) (fun c_12 => ?_)
          · replace h := og_t c_12 h
            obtain ⟨v1_70, ev1_70⟩ : ∃ y : Int32, y = (v1 + 1) := ⟨_, rfl⟩
            refine ww_iinc B dX1_firstPair_70 1 rfl (v := v1_70) (by rw [ev1_70]; rfl) (by decide) (lv' := [(1, .int v1_70), (0, .ref a_t), (2, .int v2)]) rfl ?_
            replace h := og_l ev1_70 h
            refine ww_goto B 2 dX1_firstPair_73 (by decide) ?_
            refine ww_lsel (lv' := [(0, .ref a_t), (1, .int v1_70)]) [1, 0] rfl ?_
            exact ih_2 _ h
          · replace h := og_f c_12 h
            refine ww_aload_n B dX1_firstPair_15 0 rfl ?_
            refine ww_get (ci := 1) (T := TX1) (C := RX1) (N := 6) B iX1 0 rfl rfl 1 (by decide) (by decide +kernel) rfl rfl dX1_firstPair_16 ?_
            refine ww_iload_n B dX1_firstPair_19 1 rfl ?_
            obtain ⟨i_20, h⟩ := og_i h
            refine ww_iald B 2 rfl i_20 dX1_firstPair_20 ?_
            refine ww_iload_n B dX1_firstPair_21 2 rfl ?_
            obtain ⟨q_22, hq_22, h⟩ := og_b h
            refine ww_ci0 B (k' := 0) (n' := 0) rfl rfl [] [0, 1, 2, 3, 4, 5, 6] (wr := [(a_t, .inr (1, [.ref a_port, .ref a_choice, .ref b_left, .ref a_nameOf, .ref a_hullOf, .ref b_best])), (a_port, .inr (3, [.ref b_port_may, .ref b_port_voyage, .ref b_port_luck, .ref a_port_rank, .ref a_port_worth])), (a_choice, .inl (cI, 6, .inl f_choice)), (a_hullOf, .inl (cI, 5, .inl f_hullOf)), (a_nameOf, .inl (cI, 6, .inl f_nameOf)), (a_port_rank, .inl (cI, 5, .inl f_port_rank)), (a_port_worth, .inl (cI, 30, .inl f_port_worth))]) (st := []) rfl rfl (by decide) (rr_SN B (c_X7_hasBit l D cI cZ (f_choice (Int32.toNatClampNeg v1)) v2 hq_22) gX1_firstPair_X7_hasBit_n31 rfl rfl rfl (by decide +kernel) (by decide +kernel) (by decide +kernel) (N := 2) rfl (by decide +kernel) ⟨Nat.le_of_ble_eq_true rfl, Nat.le_of_ble_eq_true rfl⟩ rfl dX1_firstPair_22 (Nat.le_of_ble_eq_true rfl) ⟨Nat.le_of_ble_eq_true rfl, Nat.le_of_ble_eq_true rfl⟩) (ws' := [(a_t, .inr (1, [.ref a_port, .ref a_choice, .ref b_left, .ref a_nameOf, .ref a_hullOf, .ref b_best])), (a_port, .inr (3, [.ref b_port_may, .ref b_port_voyage, .ref b_port_luck, .ref a_port_rank, .ref a_port_worth])), (a_choice, .inl (cI, 6, .inl f_choice)), (a_hullOf, .inl (cI, 5, .inl f_hullOf)), (a_nameOf, .inl (cI, 6, .inl f_nameOf)), (a_port_rank, .inl (cI, 5, .inl f_port_rank)), (a_port_worth, .inl (cI, 30, .inl f_port_worth))]) rfl ?_
            refine ww_if_eq B 64 dX1_firstPair_25 (by decide) (fun c_25 => ?_) (fun c_25 => ?_)
            · replace h := og_t c_25 h
              exact cut_64 _ _ h
            · replace h := og_f c_25 h
              refine ww_aload_n B dX1_firstPair_28 0 rfl ?_
              refine ww_iload_n B dX1_firstPair_29 1 rfl ?_
              refine ww_iload_n B dX1_firstPair_30 2 rfl ?_
              refine ww_aload_n B dX1_firstPair_31 0 rfl ?_
              refine ww_get (ci := 1) (T := TX1) (C := RX1) (N := 6) B iX1 0 rfl rfl 3 (by decide) (by decide +kernel) rfl rfl dX1_firstPair_32 ?_
              refine ww_iload_n B dX1_firstPair_35 1 rfl ?_
              obtain ⟨i_36, h⟩ := og_i h
              refine ww_iald B 4 rfl i_36 dX1_firstPair_36 ?_
              obtain ⟨q_37, hq_37, h⟩ := og_b h
              refine ww_ci0 B (k' := 0) (n' := 0) rfl rfl [0, 1, 6] [2, 3, 4, 5] (wr := [(a_choice, .inl (cI, 6, .inl f_choice)), (a_hullOf, .inl (cI, 5, .inl f_hullOf)), (a_nameOf, .inl (cI, 6, .inl f_nameOf)), (a_port_rank, .inl (cI, 5, .inl f_port_rank))]) (st := []) rfl rfl (by decide) (rr_V B (c_X1_hullPrefers l D cI cZ a_t a_port a_port_worth a_choice b_left a_nameOf a_hullOf b_best b_port_may b_port_voyage b_port_luck a_port_rank f_port_worth v1 v2 (f_nameOf (Int32.toNatClampNeg v1)) hq_37) gX1_firstPair_X1_hullPrefers rfl rfl rfl (N := 3) rfl (by decide +kernel) ⟨Nat.le_of_ble_eq_true rfl, Nat.le_of_ble_eq_true rfl⟩ rfl dX1_firstPair_37 0 rfl rfl (Nat.le_of_ble_eq_true rfl) ⟨Nat.le_of_ble_eq_true rfl, Nat.le_of_ble_eq_true rfl⟩) (ws' := [(a_choice, .inl (cI, 6, .inl f_choice)), (a_hullOf, .inl (cI, 5, .inl f_hullOf)), (a_nameOf, .inl (cI, 6, .inl f_nameOf)), (a_port_rank, .inl (cI, 5, .inl f_port_rank)), (a_t, .inr (1, [.ref a_port, .ref a_choice, .ref b_left, .ref a_nameOf, .ref a_hullOf, .ref b_best])), (a_port, .inr (3, [.ref b_port_may, .ref b_port_voyage, .ref b_port_luck, .ref a_port_rank, .ref a_port_worth])), (a_port_worth, .inl (cI, 30, .inl f_port_worth))]) rfl ?_
              refine ww_if_eq B 64 dX1_firstPair_40 (by decide) (fun c_40 => ?_) (fun c_40 => ?_)
              · replace h := og_t c_40 h
                refine ww_sub (ws' := [(a_t, .inr (1, [.ref a_port, .ref a_choice, .ref b_left, .ref a_nameOf, .ref a_hullOf, .ref b_best])), (a_port, .inr (3, [.ref b_port_may, .ref b_port_voyage, .ref b_port_luck, .ref a_port_rank, .ref a_port_worth])), (a_choice, .inl (cI, 6, .inl f_choice)), (a_hullOf, .inl (cI, 5, .inl f_hullOf)), (a_nameOf, .inl (cI, 6, .inl f_nameOf)), (a_port_rank, .inl (cI, 5, .inl f_port_rank)), (a_port_worth, .inl (cI, 30, .inl f_port_worth))]) [4, 5, 0, 1, 2, 3, 6] rfl (by decide) ?_
                exact cut_64 _ _ h
              · replace h := og_f c_40 h
                refine ww_aload_n B dX1_firstPair_43 0 rfl ?_
                refine ww_iload_n B dX1_firstPair_44 2 rfl ?_
                refine ww_iload_n B dX1_firstPair_45 1 rfl ?_
                refine ww_aload_n B dX1_firstPair_46 0 rfl ?_
                refine ww_get (ci := 1) (T := TX1) (C := RX1) (N := 6) B iX1 4 rfl rfl 4 (by decide) (by decide +kernel) rfl rfl dX1_firstPair_47 ?_
                refine ww_iload_n B dX1_firstPair_50 2 rfl ?_
                obtain ⟨i_51, h⟩ := og_i h
                refine ww_iald B 1 rfl i_51 dX1_firstPair_51 ?_
                obtain ⟨q_52, hq_52, h⟩ := og_b h
                refine ww_ci0 B (k' := 0) (n' := 0) rfl rfl [4, 5, 3] [0, 1, 2, 6] (wr := [(a_choice, .inl (cI, 6, .inl f_choice)), (a_hullOf, .inl (cI, 5, .inl f_hullOf)), (a_nameOf, .inl (cI, 6, .inl f_nameOf)), (a_port_worth, .inl (cI, 30, .inl f_port_worth))]) (st := []) rfl rfl (by decide) (rr_V B (c_X1_namePrefers l D cI cZ a_t a_port a_port_rank a_choice b_left a_nameOf a_hullOf b_best b_port_may b_port_voyage b_port_luck a_port_worth f_port_rank v2 v1 (f_hullOf (Int32.toNatClampNeg v2)) hq_52) gX1_firstPair_X1_namePrefers rfl rfl rfl (N := 3) rfl (by decide +kernel) ⟨Nat.le_of_ble_eq_true rfl, Nat.le_of_ble_eq_true rfl⟩ rfl dX1_firstPair_52 0 rfl rfl (Nat.le_of_ble_eq_true rfl) ⟨Nat.le_of_ble_eq_true rfl, Nat.le_of_ble_eq_true rfl⟩) (ws' := [(a_choice, .inl (cI, 6, .inl f_choice)), (a_hullOf, .inl (cI, 5, .inl f_hullOf)), (a_nameOf, .inl (cI, 6, .inl f_nameOf)), (a_port_worth, .inl (cI, 30, .inl f_port_worth)), (a_t, .inr (1, [.ref a_port, .ref a_choice, .ref b_left, .ref a_nameOf, .ref a_hullOf, .ref b_best])), (a_port, .inr (3, [.ref b_port_may, .ref b_port_voyage, .ref b_port_luck, .ref a_port_rank, .ref a_port_worth])), (a_port_rank, .inl (cI, 5, .inl f_port_rank))]) rfl ?_
                refine ww_if_eq B 64 dX1_firstPair_55 (by decide) (fun c_55 => ?_) (fun c_55 => ?_)
                · replace h := og_t c_55 h
                  refine ww_sub (ws' := [(a_t, .inr (1, [.ref a_port, .ref a_choice, .ref b_left, .ref a_nameOf, .ref a_hullOf, .ref b_best])), (a_port, .inr (3, [.ref b_port_may, .ref b_port_voyage, .ref b_port_luck, .ref a_port_rank, .ref a_port_worth])), (a_choice, .inl (cI, 6, .inl f_choice)), (a_hullOf, .inl (cI, 5, .inl f_hullOf)), (a_nameOf, .inl (cI, 6, .inl f_nameOf)), (a_port_rank, .inl (cI, 5, .inl f_port_rank)), (a_port_worth, .inl (cI, 30, .inl f_port_worth))]) [4, 5, 0, 1, 2, 6, 3] rfl (by decide) ?_
                  exact cut_64 _ _ h
                · replace h := og_f c_55 h
                  refine ww_iload_n B dX1_firstPair_58 1 rfl ?_
                  refine ww_iconst B dX1_firstPair_59 (v := 5) (by decide) ?_
                  refine ww_imul B dX1_firstPair_60 ?_
                  refine ww_iload_n B dX1_firstPair_61 2 rfl ?_
                  refine ww_iadd B dX1_firstPair_62 ?_
                  exact ww_iret B hA hQ hr dX1_firstPair_63 () [4, 5, 0, 1, 2, 6, 3] rfl (by decide) (og_s h).symm
      intro v1 h
      replace h : (if 6 ≤ v1 then (some (-6)) else ((m_X1_firstPair_10 (m_X1_firstPair_2 f_choice f_hullOf f_nameOf f_port_rank f_port_worth fuel_2) f_choice f_hullOf f_nameOf f_port_rank f_port_worth 1000000 v1 0)) : Option Int32) = some res := h
      refine ww_iload_n B dX1_firstPair_2 1 rfl ?_
      refine ww_bipush B dX1_firstPair_3 (v := 6) (by decide) ?_
      refine ww_icmp_ge B 76 dX1_firstPair_5 (by decide) (fun c_5 => ?_) (fun c_5 => ?_)
      · replace h := og_t c_5 h
        refine ww_bipush B dX1_firstPair_76 (v := (-6)) (by decide) ?_
        exact ww_iret B hA hQ hr dX1_firstPair_78 () [0, 1, 2, 3, 4, 5, 6] rfl (by decide) (og_s h).symm
      · replace h := og_f c_5 h
        refine ww_iconst B dX1_firstPair_8 (v := 0) (by decide) ?_
        refine ww_istore_n B dX1_firstPair_9 (lv' := [(2, .int 0), (0, .ref a_t), (1, .int v1)]) (by decide) rfl ?_
        refine ww_lsel (lv' := [(0, .ref a_t), (1, .int v1), (2, .int 0)]) [1, 2, 0] rfl ?_
        exact cut_10 _ _ _ h
  refine ww_iconst B dX1_firstPair_0 (v := 0) (by decide) ?_
  refine ww_istore_n B dX1_firstPair_1 (lv' := [(1, .int 0), (0, .ref a_t)]) (by decide) rfl ?_
  refine ww_lsel (lv' := [(0, .ref a_t), (1, .int 0)]) [1, 0] rfl ?_
  exact cut_2 _ _ h
noncomputable def m_X1_open_38 (k2 : Int32 → Int32 → Int32 → (Nat → Int32) → (Nat → Int32) → (Nat → Int32) → Option ((Nat → Int32) × (Nat → Int32) × (Nat → Int32))) (f_port_may : (Nat → Int32)) (v1 : Int32) (v2 : Int32) (v3 : Int32) (s1 : Int32) (s2 : Int32) (f_choice : (Nat → Int32)) (f_hullOf : (Nat → Int32)) (f_nameOf : (Nat → Int32)) : Option ((Nat → Int32) × (Nat → Int32) × (Nat → Int32)) := ogi s1 6 (ogl (v3 + 1) (fun (v3_39 : Int32) => (k2 v1 v2 v3_39 (upd f_choice (Int32.toNatClampNeg s1) s2) f_hullOf f_nameOf)))
noncomputable def m_X1_open_2b (k2 : Int32 → Int32 → Int32 → (Nat → Int32) → (Nat → Int32) → (Nat → Int32) → Option ((Nat → Int32) × (Nat → Int32) × (Nat → Int32))) (f_port_may : (Nat → Int32)) (v1 : Int32) (v2 : Int32) (v3 : Int32) (f_choice : (Nat → Int32)) (f_hullOf : (Nat → Int32)) (f_nameOf : (Nat → Int32)) : Option ((Nat → Int32) × (Nat → Int32) × (Nat → Int32)) := if 6 ≤ v3 then (ogb (m_X7_fill 6 f_nameOf (-6)) (fun q_51 => ogb (m_X7_fill 5 f_hullOf (-6)) (fun q_60 => some (f_choice, q_60, q_51)))) else (ogb (m_X7_hasBit v1 v3) (fun q_15 => if q_15 = 0 then ((m_X1_open_38 k2 f_port_may v1 v2 v3 v3 0 f_choice f_hullOf f_nameOf)) else (ogb (m_X7_at 6 f_port_may v3) (fun q_29 => (m_X1_open_38 k2 f_port_may v1 v2 v3 v3 (q_29 &&& v2) f_choice f_hullOf f_nameOf)))))
noncomputable def m_X1_open_2 (f_port_may : (Nat → Int32)) (fuel : Nat) : Int32 → Int32 → Int32 → (Nat → Int32) → (Nat → Int32) → (Nat → Int32) → Option ((Nat → Int32) × (Nat → Int32) × (Nat → Int32)) := Nat.rec (fun _ _ _ _ _ _ => none) (fun _ k2 => m_X1_open_2b k2 f_port_may) fuel
noncomputable def m_X1_open (f_port_may : (Nat → Int32)) (f_choice : (Nat → Int32)) (f_hullOf : (Nat → Int32)) (f_nameOf : (Nat → Int32)) (v1 : Int32) (v2 : Int32) : Option ((Nat → Int32) × (Nat → Int32) × (Nat → Int32)) := (m_X1_open_2 f_port_may 1000000 v1 v2 0 f_choice f_hullOf f_nameOf)
set_option maxHeartbeats 4000000 in
set_option maxRecDepth 100000 in
theorem c_X1_open (l : Launch) (D : va_G) (cI cZ : ClassId) (a_t a_port a_choice a_hullOf a_nameOf a_port_may b_left b_best b_port_voyage b_port_luck b_port_rank b_port_worth : Nat) (f_choice : (Nat → Int32)) (f_hullOf : (Nat → Int32)) (f_nameOf : (Nat → Int32)) (f_port_may : (Nat → Int32)) (v1 : Int32) (v2 : Int32) {res : ((Nat → Int32) × (Nat → Int32) × (Nat → Int32))} (h : m_X1_open f_port_may f_choice f_hullOf f_nameOf v1 v2 = some res) : CT l yX1_open wsX1_open ({ frames := 1, cells := 0, slots := 0, locals := 22 } : Room) D cI cZ [.ref a_t, .int v1, .int v2] [(a_t, .inr (1, [.ref a_port, .ref a_choice, .ref b_left, .ref a_nameOf, .ref a_hullOf, .ref b_best])), (a_port, .inr (3, [.ref a_port_may, .ref b_port_voyage, .ref b_port_luck, .ref b_port_rank, .ref b_port_worth])), (a_choice, .inl (cI, 6, .inl f_choice)), (a_hullOf, .inl (cI, 5, .inl f_hullOf)), (a_nameOf, .inl (cI, 6, .inl f_nameOf)), (a_port_may, .inl (cI, 6, .inl f_port_may))] (QV D [(a_t, .inr (1, [.ref a_port, .ref a_choice, .ref b_left, .ref a_nameOf, .ref a_hullOf, .ref b_best])), (a_port, .inr (3, [.ref a_port_may, .ref b_port_voyage, .ref b_port_luck, .ref b_port_rank, .ref b_port_worth])), (a_choice, .inl (cI, 6, .inl f_choice)), (a_hullOf, .inl (cI, 5, .inl f_hullOf)), (a_nameOf, .inl (cI, 6, .inl f_nameOf)), (a_port_may, .inl (cI, 6, .inl f_port_may))] (fun (u : (Nat → Int32) × (Nat → Int32) × (Nat → Int32)) => u = res) (fun (u : (Nat → Int32) × (Nat → Int32) × (Nat → Int32)) => [(a_t, .inr (1, [.ref a_port, .ref a_choice, .ref b_left, .ref a_nameOf, .ref a_hullOf, .ref b_best])), (a_port, .inr (3, [.ref a_port_may, .ref b_port_voyage, .ref b_port_luck, .ref b_port_rank, .ref b_port_worth])), (a_choice, .inl (cI, 6, .inl u.1)), (a_hullOf, .inl (cI, 5, .inl u.2.1)), (a_nameOf, .inl (cI, 6, .inl u.2.2)), (a_port_may, .inl (cI, 6, .inl f_port_may))])) 0 0 := by
  have h : ((m_X1_open_2 f_port_may 1000000 v1 v2 0 f_choice f_hullOf f_nameOf) : Option ((Nat → Int32) × (Nat → Int32) × (Nat → Int32))) = some res := h
  refine ct_entry (cc := cX1_open) (nl := 4) (ret := none) (own := RX1) (lv0 := [(0, .ref a_t), (1, .int v1), (2, .int v2)]) (by decide) rfl rfl (Nat.le_of_ble_eq_true rfl) rfl ?_
  intro p e s m args below meth c A Q hA hQ hr hnm B
  have iX1 : ∀ w ∈ wsX10, w ∈ wsX1_open := by decide +kernel
  have iX3 : ∀ w ∈ wsX30, w ∈ wsX1_open := by decide +kernel
  have cut_2 : ∀ (fuel : Nat) (v1 : Int32) (v2 : Int32) (v3 : Int32) (f_choice : (Nat → Int32)) (f_hullOf : (Nat → Int32)) (f_nameOf : (Nat → Int32)), m_X1_open_2 f_port_may fuel v1 v2 v3 f_choice f_hullOf f_nameOf = some res → WW p l e (headSpec wsX1_open ({ frames := 1, cells := 0, slots := 0, locals := 22 } : Room)).room s m args below meth c D A 4 0 0 Q [(a_t, .inr (1, [.ref a_port, .ref a_choice, .ref b_left, .ref a_nameOf, .ref a_hullOf, .ref b_best])), (a_port, .inr (3, [.ref a_port_may, .ref b_port_voyage, .ref b_port_luck, .ref b_port_rank, .ref b_port_worth])), (a_choice, .inl (cI, 6, .inl f_choice)), (a_hullOf, .inl (cI, 5, .inl f_hullOf)), (a_nameOf, .inl (cI, 6, .inl f_nameOf)), (a_port_may, .inl (cI, 6, .inl f_port_may))] [(0, .ref a_t), (1, .int v1), (2, .int v2), (3, .int v3)] [] 2 := by
    intro fuel_2
    induction fuel_2 with
    | zero => intro v1 v2 v3 f_choice f_hullOf f_nameOf h; exact og_0 h
    | succ fuel_2 ih_2 =>
      have cut_38 : ∀ (v1 : Int32) (v2 : Int32) (v3 : Int32) (s1 : Int32) (s2 : Int32) (f_choice : (Nat → Int32)) (f_hullOf : (Nat → Int32)) (f_nameOf : (Nat → Int32)), m_X1_open_38 (m_X1_open_2 f_port_may fuel_2) f_port_may v1 v2 v3 s1 s2 f_choice f_hullOf f_nameOf = some res → WW p l e (headSpec wsX1_open ({ frames := 1, cells := 0, slots := 0, locals := 22 } : Room)).room s m args below meth c D A 4 0 0 Q [(a_t, .inr (1, [.ref a_port, .ref a_choice, .ref b_left, .ref a_nameOf, .ref a_hullOf, .ref b_best])), (a_port, .inr (3, [.ref a_port_may, .ref b_port_voyage, .ref b_port_luck, .ref b_port_rank, .ref b_port_worth])), (a_choice, .inl (cI, 6, .inl f_choice)), (a_hullOf, .inl (cI, 5, .inl f_hullOf)), (a_nameOf, .inl (cI, 6, .inl f_nameOf)), (a_port_may, .inl (cI, 6, .inl f_port_may))] [(0, .ref a_t), (1, .int v1), (2, .int v2), (3, .int v3)] [.int s2, .int s1, .ref a_choice] 38 := by
        intro v1 v2 v3 s1 s2 f_choice f_hullOf f_nameOf h
        replace h : (ogi s1 6 (ogl (v3 + 1) (fun (v3_39 : Int32) => ((m_X1_open_2 f_port_may fuel_2) v1 v2 v3_39 (upd f_choice (Int32.toNatClampNeg s1) s2) f_hullOf f_nameOf))) : Option ((Nat → Int32) × (Nat → Int32) × (Nat → Int32))) = some res := h
        obtain ⟨i_38, h⟩ := og_i h
        refine ww_iast B 2 rfl i_38 dX1_open_38 (ws' := [(a_t, .inr (1, [.ref a_port, .ref a_choice, .ref b_left, .ref a_nameOf, .ref a_hullOf, .ref b_best])), (a_port, .inr (3, [.ref a_port_may, .ref b_port_voyage, .ref b_port_luck, .ref b_port_rank, .ref b_port_worth])), (a_choice, .inl (cI, 6, .inl (upd f_choice (Int32.toNatClampNeg s1) s2))), (a_hullOf, .inl (cI, 5, .inl f_hullOf)), (a_nameOf, .inl (cI, 6, .inl f_nameOf)), (a_port_may, .inl (cI, 6, .inl f_port_may))]) rfl ?_
        obtain ⟨v3_39, ev3_39⟩ : ∃ y : Int32, y = (v3 + 1) := ⟨_, rfl⟩
        refine ww_iinc B dX1_open_39 3 rfl (v := v3_39) (by rw [ev3_39]; rfl) (by decide) (lv' := [(3, .int v3_39), (0, .ref a_t), (1, .int v1), (2, .int v2)]) rfl ?_
        replace h := og_l ev3_39 h
        refine ww_goto B 2 dX1_open_42 (by decide) ?_
        refine ww_lsel (lv' := [(0, .ref a_t), (1, .int v1), (2, .int v2), (3, .int v3_39)]) [1, 2, 3, 0] rfl ?_
        exact ih_2 _ _ _ _ _ _ h
      intro v1 v2 v3 f_choice f_hullOf f_nameOf h
      replace h : (if 6 ≤ v3 then (ogb (m_X7_fill 6 f_nameOf (-6)) (fun q_51 => ogb (m_X7_fill 5 f_hullOf (-6)) (fun q_60 => some (f_choice, q_60, q_51)))) else (ogb (m_X7_hasBit v1 v3) (fun q_15 => if q_15 = 0 then ((m_X1_open_38 (m_X1_open_2 f_port_may fuel_2) f_port_may v1 v2 v3 v3 0 f_choice f_hullOf f_nameOf)) else (ogb (m_X7_at 6 f_port_may v3) (fun q_29 => (m_X1_open_38 (m_X1_open_2 f_port_may fuel_2) f_port_may v1 v2 v3 v3 (q_29 &&& v2) f_choice f_hullOf f_nameOf))))) : Option ((Nat → Int32) × (Nat → Int32) × (Nat → Int32))) = some res := h
      refine ww_iload_n B dX1_open_2 3 rfl ?_
      refine ww_bipush B dX1_open_3 (v := 6) (by decide) ?_
      refine ww_icmp_ge B 45 dX1_open_5 (by decide) (fun c_5 => ?_) (fun c_5 => ?_)
      · replace h := og_t c_5 h
        refine ww_aload_n B dX1_open_45 0 rfl ?_
        refine ww_get (ci := 1) (T := TX1) (C := RX1) (N := 6) B iX1 0 rfl rfl 3 (by decide) (by decide +kernel) rfl rfl dX1_open_46 ?_
        refine ww_bipush B dX1_open_49 (v := (-6)) (by decide) ?_
        obtain ⟨q_51, hq_51, h⟩ := og_b h
        refine ww_cvM B (k' := 0) (n' := 0) rfl rfl [4] [0, 1, 2, 3, 5] (wr := [(a_t, .inr (1, [.ref a_port, .ref a_choice, .ref b_left, .ref a_nameOf, .ref a_hullOf, .ref b_best])), (a_port, .inr (3, [.ref a_port_may, .ref b_port_voyage, .ref b_port_luck, .ref b_port_rank, .ref b_port_worth])), (a_choice, .inl (cI, 6, .inl f_choice)), (a_hullOf, .inl (cI, 5, .inl f_hullOf)), (a_port_may, .inl (cI, 6, .inl f_port_may))]) (st := []) rfl rfl (by decide) (rr_SN B (c_X7_fill l D cI cZ a_nameOf 6 f_nameOf (-6) hq_51) gX1_open_X7_fill_n44 rfl rfl rfl (by decide +kernel) (by decide +kernel) (by decide +kernel) (N := 2) rfl (by decide +kernel) ⟨Nat.le_of_ble_eq_true rfl, Nat.le_of_ble_eq_true rfl⟩ rfl dX1_open_51 (Nat.le_of_ble_eq_true rfl) ⟨Nat.le_of_ble_eq_true rfl, Nat.le_of_ble_eq_true rfl⟩) (ws' := [(a_t, .inr (1, [.ref a_port, .ref a_choice, .ref b_left, .ref a_nameOf, .ref a_hullOf, .ref b_best])), (a_port, .inr (3, [.ref a_port_may, .ref b_port_voyage, .ref b_port_luck, .ref b_port_rank, .ref b_port_worth])), (a_choice, .inl (cI, 6, .inl f_choice)), (a_hullOf, .inl (cI, 5, .inl f_hullOf)), (a_port_may, .inl (cI, 6, .inl f_port_may)), (a_nameOf, .inl (cI, 6, .inl q_51))]) rfl ?_
        refine ww_aload_n B dX1_open_54 0 rfl ?_
        refine ww_get (ci := 1) (T := TX1) (C := RX1) (N := 6) B iX1 0 rfl rfl 4 (by decide) (by decide +kernel) rfl rfl dX1_open_55 ?_
        refine ww_bipush B dX1_open_58 (v := (-6)) (by decide) ?_
        obtain ⟨q_60, hq_60, h⟩ := og_b h
        refine ww_cvM B (k' := 0) (n' := 0) rfl rfl [3] [0, 1, 2, 4, 5] (wr := [(a_t, .inr (1, [.ref a_port, .ref a_choice, .ref b_left, .ref a_nameOf, .ref a_hullOf, .ref b_best])), (a_port, .inr (3, [.ref a_port_may, .ref b_port_voyage, .ref b_port_luck, .ref b_port_rank, .ref b_port_worth])), (a_choice, .inl (cI, 6, .inl f_choice)), (a_port_may, .inl (cI, 6, .inl f_port_may)), (a_nameOf, .inl (cI, 6, .inl q_51))]) (st := []) rfl rfl (by decide) (rr_SN B (c_X7_fill l D cI cZ a_hullOf 5 f_hullOf (-6) hq_60) gX1_open_X7_fill_n44 rfl rfl rfl (by decide +kernel) (by decide +kernel) (by decide +kernel) (N := 2) rfl (by decide +kernel) ⟨Nat.le_of_ble_eq_true rfl, Nat.le_of_ble_eq_true rfl⟩ rfl dX1_open_60 (Nat.le_of_ble_eq_true rfl) ⟨Nat.le_of_ble_eq_true rfl, Nat.le_of_ble_eq_true rfl⟩) (ws' := [(a_t, .inr (1, [.ref a_port, .ref a_choice, .ref b_left, .ref a_nameOf, .ref a_hullOf, .ref b_best])), (a_port, .inr (3, [.ref a_port_may, .ref b_port_voyage, .ref b_port_luck, .ref b_port_rank, .ref b_port_worth])), (a_choice, .inl (cI, 6, .inl f_choice)), (a_port_may, .inl (cI, 6, .inl f_port_may)), (a_nameOf, .inl (cI, 6, .inl q_51)), (a_hullOf, .inl (cI, 5, .inl q_60))]) rfl ?_
        exact ww_vret B hA hQ hr dX1_open_63 (f_choice, q_60, q_51) [0, 1, 2, 5, 4, 3] rfl (by decide) (og_s h).symm
      · replace h := og_f c_5 h
        refine ww_aload_n B dX1_open_8 0 rfl ?_
        refine ww_get (ci := 1) (T := TX1) (C := RX1) (N := 6) B iX1 0 rfl rfl 1 (by decide) (by decide +kernel) rfl rfl dX1_open_9 ?_
        refine ww_iload_n B dX1_open_12 3 rfl ?_
        refine ww_iload_n B dX1_open_13 1 rfl ?_
        refine ww_iload_n B dX1_open_14 3 rfl ?_
        obtain ⟨q_15, hq_15, h⟩ := og_b h
        refine ww_ci0 B (k' := 0) (n' := 0) rfl rfl [] [0, 1, 2, 3, 4, 5] (wr := [(a_t, .inr (1, [.ref a_port, .ref a_choice, .ref b_left, .ref a_nameOf, .ref a_hullOf, .ref b_best])), (a_port, .inr (3, [.ref a_port_may, .ref b_port_voyage, .ref b_port_luck, .ref b_port_rank, .ref b_port_worth])), (a_choice, .inl (cI, 6, .inl f_choice)), (a_hullOf, .inl (cI, 5, .inl f_hullOf)), (a_nameOf, .inl (cI, 6, .inl f_nameOf)), (a_port_may, .inl (cI, 6, .inl f_port_may))]) (st := [.int v3, .ref a_choice]) rfl rfl (by decide) (rr_SN B (c_X7_hasBit l D cI cZ v1 v3 hq_15) gX1_open_X7_hasBit_n31 rfl rfl rfl (by decide +kernel) (by decide +kernel) (by decide +kernel) (N := 2) rfl (by decide +kernel) ⟨Nat.le_of_ble_eq_true rfl, Nat.le_of_ble_eq_true rfl⟩ rfl dX1_open_15 (Nat.le_of_ble_eq_true rfl) ⟨Nat.le_of_ble_eq_true rfl, Nat.le_of_ble_eq_true rfl⟩) (ws' := [(a_t, .inr (1, [.ref a_port, .ref a_choice, .ref b_left, .ref a_nameOf, .ref a_hullOf, .ref b_best])), (a_port, .inr (3, [.ref a_port_may, .ref b_port_voyage, .ref b_port_luck, .ref b_port_rank, .ref b_port_worth])), (a_choice, .inl (cI, 6, .inl f_choice)), (a_hullOf, .inl (cI, 5, .inl f_hullOf)), (a_nameOf, .inl (cI, 6, .inl f_nameOf)), (a_port_may, .inl (cI, 6, .inl f_port_may))]) rfl ?_
        refine ww_if_eq B 37 dX1_open_18 (by decide) (fun c_18 => ?_) (fun c_18 => ?_)
        · replace h := og_t c_18 h
          refine ww_iconst B dX1_open_37 (v := 0) (by decide) ?_
          exact cut_38 _ _ _ _ _ _ _ _ h
        · replace h := og_f c_18 h
          refine ww_aload_n B dX1_open_21 0 rfl ?_
          refine ww_get (ci := 1) (T := TX1) (C := RX1) (N := 6) B iX1 0 rfl rfl 0 (by decide) (by decide +kernel) rfl rfl dX1_open_22 ?_
          refine ww_get (ci := 3) (T := TX3) (C := RX3) (N := 5) B iX3 1 rfl rfl 0 (by decide) (by decide +kernel) rfl rfl dX1_open_25 ?_
          refine ww_iload_n B dX1_open_28 3 rfl ?_
          obtain ⟨q_29, hq_29, h⟩ := og_b h
          refine ww_ci0 B (k' := 0) (n' := 0) rfl rfl [5] [0, 1, 2, 3, 4] (wr := [(a_t, .inr (1, [.ref a_port, .ref a_choice, .ref b_left, .ref a_nameOf, .ref a_hullOf, .ref b_best])), (a_port, .inr (3, [.ref a_port_may, .ref b_port_voyage, .ref b_port_luck, .ref b_port_rank, .ref b_port_worth])), (a_choice, .inl (cI, 6, .inl f_choice)), (a_hullOf, .inl (cI, 5, .inl f_hullOf)), (a_nameOf, .inl (cI, 6, .inl f_nameOf))]) (st := [.int v3, .ref a_choice]) rfl rfl (by decide) (rr_SN B (c_X7_at l D cI cZ a_port_may 6 f_port_may v3 hq_29) gX1_open_X7_at_n40 rfl rfl rfl (by decide +kernel) (by decide +kernel) (by decide +kernel) (N := 2) rfl (by decide +kernel) ⟨Nat.le_of_ble_eq_true rfl, Nat.le_of_ble_eq_true rfl⟩ rfl dX1_open_29 (Nat.le_of_ble_eq_true rfl) ⟨Nat.le_of_ble_eq_true rfl, Nat.le_of_ble_eq_true rfl⟩) (ws' := [(a_t, .inr (1, [.ref a_port, .ref a_choice, .ref b_left, .ref a_nameOf, .ref a_hullOf, .ref b_best])), (a_port, .inr (3, [.ref a_port_may, .ref b_port_voyage, .ref b_port_luck, .ref b_port_rank, .ref b_port_worth])), (a_choice, .inl (cI, 6, .inl f_choice)), (a_hullOf, .inl (cI, 5, .inl f_hullOf)), (a_nameOf, .inl (cI, 6, .inl f_nameOf)), (a_port_may, .inl (cI, 6, .inl f_port_may))]) rfl ?_
          refine ww_iload_n B dX1_open_32 2 rfl ?_
          refine ww_iand B dX1_open_33 ?_
          refine ww_goto B 38 dX1_open_34 (by decide) ?_
          exact cut_38 _ _ _ _ _ _ _ _ h
  refine ww_iconst B dX1_open_0 (v := 0) (by decide) ?_
  refine ww_istore_n B dX1_open_1 (lv' := [(3, .int 0), (0, .ref a_t), (1, .int v1), (2, .int v2)]) (by decide) rfl ?_
  refine ww_lsel (lv' := [(0, .ref a_t), (1, .int v1), (2, .int v2), (3, .int 0)]) [1, 2, 3, 0] rfl ?_
  exact cut_2 _ _ _ _ _ _ _ h
noncomputable def m_X1_takes_84 (k16 : Int32 → Int32 → (Nat → Int32) → (Nat → Int32) → Option (Int32 × ((Nat → Int32) × (Nat → Int32)))) (f_choice : (Nat → Int32)) (v2 : Int32) (v3 : Int32) (f_hullOf : (Nat → Int32)) (f_nameOf : (Nat → Int32)) : Option (Int32 × ((Nat → Int32) × (Nat → Int32))) := ogl (v3 + (-1)) (fun (v3_84 : Int32) => (k16 v2 v3_84 f_hullOf f_nameOf))
noncomputable def m_X1_takes_16b (k16 : Int32 → Int32 → (Nat → Int32) → (Nat → Int32) → Option (Int32 × ((Nat → Int32) × (Nat → Int32)))) (f_choice : (Nat → Int32)) (v2 : Int32) (v3 : Int32) (f_hullOf : (Nat → Int32)) (f_nameOf : (Nat → Int32)) : Option (Int32 × ((Nat → Int32) × (Nat → Int32))) := if v3 < 0 then (some (1, (f_hullOf, f_nameOf))) else (ogl ((v2 - v2 / 10 * 10) - 1) (fun (v4_26 : Int32) => ogl (v2 / 10) (fun (v2_32 : Int32) => if 0 ≤ v4_26 then (ogb (m_X7_isName v4_26) (fun q_43 => if q_43 = 0 then (some (0, (f_hullOf, f_nameOf))) else (ogi v3 6 (ogb (m_X7_hasBit (f_choice (Int32.toNatClampNeg v3)) v4_26) (fun q_57 => if q_57 = 0 then (some (0, (f_hullOf, f_nameOf))) else (ogi v4_26 5 (if (f_hullOf (Int32.toNatClampNeg v4_26)) = (-6) then (ogb (m_X1_give f_hullOf f_nameOf v3 v4_26) (fun q_81 => (m_X1_takes_84 k16 f_choice v2_32 v3 q_81.1 q_81.2))) else (some (0, (f_hullOf, f_nameOf)))))))))) else ((m_X1_takes_84 k16 f_choice v2_32 v3 f_hullOf f_nameOf)))))
noncomputable def m_X1_takes_16 (f_choice : (Nat → Int32)) (fuel : Nat) : Int32 → Int32 → (Nat → Int32) → (Nat → Int32) → Option (Int32 × ((Nat → Int32) × (Nat → Int32))) := Nat.rec (fun _ _ _ _ => none) (fun _ k16 => m_X1_takes_16b k16 f_choice) fuel
noncomputable def m_X1_takes (f_choice : (Nat → Int32)) (f_hullOf : (Nat → Int32)) (f_nameOf : (Nat → Int32)) (v1 : Int32) : Option (Int32 × ((Nat → Int32) × (Nat → Int32))) := ogb (m_X7_isWithin v1 0 999999) (fun q_4 => if q_4 = 0 then (some (0, (f_hullOf, f_nameOf))) else ((m_X1_takes_16 f_choice 1000000 v1 5 f_hullOf f_nameOf)))
set_option maxHeartbeats 4000000 in
set_option maxRecDepth 100000 in
theorem c_X1_takes (l : Launch) (D : va_G) (cI cZ : ClassId) (a_t a_choice a_hullOf a_nameOf b_port b_left b_best : Nat) (f_choice : (Nat → Int32)) (f_hullOf : (Nat → Int32)) (f_nameOf : (Nat → Int32)) (v1 : Int32) {res : (Int32 × ((Nat → Int32) × (Nat → Int32)))} (h : m_X1_takes f_choice f_hullOf f_nameOf v1 = some res) : CT l yX1_takes wsX1_takes ({ frames := 2, cells := 0, slots := 0, locals := 44 } : Room) D cI cZ [.ref a_t, .int v1] [(a_t, .inr (1, [.ref b_port, .ref a_choice, .ref b_left, .ref a_nameOf, .ref a_hullOf, .ref b_best])), (a_choice, .inl (cI, 6, .inl f_choice)), (a_hullOf, .inl (cI, 5, .inl f_hullOf)), (a_nameOf, .inl (cI, 6, .inl f_nameOf))] (QI D [(a_t, .inr (1, [.ref b_port, .ref a_choice, .ref b_left, .ref a_nameOf, .ref a_hullOf, .ref b_best])), (a_choice, .inl (cI, 6, .inl f_choice)), (a_hullOf, .inl (cI, 5, .inl f_hullOf)), (a_nameOf, .inl (cI, 6, .inl f_nameOf))] (fun (r : Int32) (u : (Nat → Int32) × (Nat → Int32)) => r = res.1 ∧ u = res.2) (fun (u : (Nat → Int32) × (Nat → Int32)) => [(a_t, .inr (1, [.ref b_port, .ref a_choice, .ref b_left, .ref a_nameOf, .ref a_hullOf, .ref b_best])), (a_choice, .inl (cI, 6, .inl f_choice)), (a_hullOf, .inl (cI, 5, .inl u.1)), (a_nameOf, .inl (cI, 6, .inl u.2))])) 0 0 := by
  have h : (ogb (m_X7_isWithin v1 0 999999) (fun q_4 => if q_4 = 0 then (some (0, (f_hullOf, f_nameOf))) else ((m_X1_takes_16 f_choice 1000000 v1 5 f_hullOf f_nameOf))) : Option (Int32 × ((Nat → Int32) × (Nat → Int32)))) = some res := h
  refine ct_entry (cc := cX1_takes) (nl := 5) (ret := (some .boolean)) (own := RX1) (lv0 := [(0, .ref a_t), (1, .int v1)]) (by decide) rfl rfl (Nat.le_of_ble_eq_true rfl) rfl ?_
  intro p e s m args below meth c A Q hA hQ hr hnm B
  have iX1 : ∀ w ∈ wsX10, w ∈ wsX1_takes := by decide +kernel
  have cut_16 : ∀ (fuel : Nat) (v2 : Int32) (v3 : Int32) (f_hullOf : (Nat → Int32)) (f_nameOf : (Nat → Int32)), m_X1_takes_16 f_choice fuel v2 v3 f_hullOf f_nameOf = some res → WW p l e (headSpec wsX1_takes ({ frames := 2, cells := 0, slots := 0, locals := 44 } : Room)).room s m args below meth c D A 5 0 0 Q [(a_t, .inr (1, [.ref b_port, .ref a_choice, .ref b_left, .ref a_nameOf, .ref a_hullOf, .ref b_best])), (a_choice, .inl (cI, 6, .inl f_choice)), (a_hullOf, .inl (cI, 5, .inl f_hullOf)), (a_nameOf, .inl (cI, 6, .inl f_nameOf))] [(0, .ref a_t), (2, .int v2), (3, .int v3)] [] 16 := by
    intro fuel_16
    induction fuel_16 with
    | zero => intro v2 v3 f_hullOf f_nameOf h; exact og_0 h
    | succ fuel_16 ih_16 =>
      have cut_84 : ∀ (v2 : Int32) (v3 : Int32) (f_hullOf : (Nat → Int32)) (f_nameOf : (Nat → Int32)), m_X1_takes_84 (m_X1_takes_16 f_choice fuel_16) f_choice v2 v3 f_hullOf f_nameOf = some res → WW p l e (headSpec wsX1_takes ({ frames := 2, cells := 0, slots := 0, locals := 44 } : Room)).room s m args below meth c D A 5 0 0 Q [(a_t, .inr (1, [.ref b_port, .ref a_choice, .ref b_left, .ref a_nameOf, .ref a_hullOf, .ref b_best])), (a_choice, .inl (cI, 6, .inl f_choice)), (a_hullOf, .inl (cI, 5, .inl f_hullOf)), (a_nameOf, .inl (cI, 6, .inl f_nameOf))] [(0, .ref a_t), (2, .int v2), (3, .int v3)] [] 84 := by
        intro v2 v3 f_hullOf f_nameOf h
        replace h : (ogl (v3 + (-1)) (fun (v3_84 : Int32) => ((m_X1_takes_16 f_choice fuel_16) v2 v3_84 f_hullOf f_nameOf)) : Option (Int32 × ((Nat → Int32) × (Nat → Int32)))) = some res := h
        obtain ⟨v3_84, ev3_84⟩ : ∃ y : Int32, y = (v3 + (-1)) := ⟨_, rfl⟩
        refine ww_iinc B dX1_takes_84 2 rfl (v := v3_84) (by rw [ev3_84]; rfl) (by decide) (lv' := [(3, .int v3_84), (0, .ref a_t), (2, .int v2)]) rfl ?_
        replace h := og_l ev3_84 h
        refine ww_goto B 16 dX1_takes_87 (by decide) ?_
        refine ww_lsel (lv' := [(0, .ref a_t), (2, .int v2), (3, .int v3_84)]) [1, 2, 0] rfl ?_
        exact ih_16 _ _ _ _ h
      intro v2 v3 f_hullOf f_nameOf h
      replace h : (if v3 < 0 then (some (1, (f_hullOf, f_nameOf))) else (ogl ((v2 - v2 / 10 * 10) - 1) (fun (v4_26 : Int32) => ogl (v2 / 10) (fun (v2_32 : Int32) => if 0 ≤ v4_26 then (ogb (m_X7_isName v4_26) (fun q_43 => if q_43 = 0 then (some (0, (f_hullOf, f_nameOf))) else (ogi v3 6 (ogb (m_X7_hasBit (f_choice (Int32.toNatClampNeg v3)) v4_26) (fun q_57 => if q_57 = 0 then (some (0, (f_hullOf, f_nameOf))) else (ogi v4_26 5 (if (f_hullOf (Int32.toNatClampNeg v4_26)) = (-6) then (ogb (m_X1_give f_hullOf f_nameOf v3 v4_26) (fun q_81 => (m_X1_takes_84 (m_X1_takes_16 f_choice fuel_16) f_choice v2_32 v3 q_81.1 q_81.2))) else (some (0, (f_hullOf, f_nameOf)))))))))) else ((m_X1_takes_84 (m_X1_takes_16 f_choice fuel_16) f_choice v2_32 v3 f_hullOf f_nameOf))))) : Option (Int32 × ((Nat → Int32) × (Nat → Int32)))) = some res := h
      refine ww_iload_n B dX1_takes_16 2 rfl ?_
      refine ww_if_lt B 90 dX1_takes_17 (by decide) (fun c_17 => ?_) (fun c_17 => ?_)
      · replace h := og_t c_17 h
        refine ww_iconst B dX1_takes_90 (v := 1) (by decide) ?_
        exact ww_zret B hA hQ hr (Or.inr rfl) dX1_takes_91 (f_hullOf, f_nameOf) [0, 1, 2, 3] rfl (by decide) (og_p h)
      · replace h := og_f c_17 h
        refine ww_iload_n B dX1_takes_20 1 rfl ?_
        refine ww_bipush B dX1_takes_21 (v := 10) (by decide) ?_
        refine ww_irem B dX1_takes_23 (by decide) ?_
        refine ww_iconst B dX1_takes_24 (v := 1) (by decide) ?_
        refine ww_isub B dX1_takes_25 ?_
        refine ww_topi (fun v4_26 ev4_26 => ?_)
        replace h := og_l ev4_26 h
        refine ww_istore B dX1_takes_26 (lv' := [(4, .int v4_26), (0, .ref a_t), (2, .int v2), (3, .int v3)]) (by decide) rfl ?_
        refine ww_iload_n B dX1_takes_28 2 rfl ?_
        refine ww_bipush B dX1_takes_29 (v := 10) (by decide) ?_
        refine ww_idiv B dX1_takes_31 (by decide) ?_
        refine ww_topi (fun v2_32 ev2_32 => ?_)
        replace h := og_l ev2_32 h
        refine ww_istore_n B dX1_takes_32 (lv' := [(2, .int v2_32), (4, .int v4_26), (0, .ref a_t), (3, .int v3)]) (by decide) rfl ?_
        refine ww_iload B dX1_takes_33 1 rfl ?_
        refine ww_if_ge B 41 dX1_takes_35 (by decide) (fun c_35 => ?_) (fun c_35 => ?_)
        · replace h := og_t c_35 h
          refine ww_iload B dX1_takes_41 1 rfl ?_
          obtain ⟨q_43, hq_43, h⟩ := og_b h
          refine ww_ci0 B (k' := 0) (n' := 0) rfl rfl [] [0, 1, 2, 3] (wr := [(a_t, .inr (1, [.ref b_port, .ref a_choice, .ref b_left, .ref a_nameOf, .ref a_hullOf, .ref b_best])), (a_choice, .inl (cI, 6, .inl f_choice)), (a_hullOf, .inl (cI, 5, .inl f_hullOf)), (a_nameOf, .inl (cI, 6, .inl f_nameOf))]) (st := []) rfl rfl (by decide) (rr_SN B (c_X7_isName l D cI cZ v4_26 hq_43) gX1_takes_X7_isName_n108 rfl rfl rfl (by decide +kernel) (by decide +kernel) (by decide +kernel) (N := 1) rfl (by decide +kernel) ⟨Nat.le_of_ble_eq_true rfl, Nat.le_of_ble_eq_true rfl⟩ rfl dX1_takes_43 (Nat.le_of_ble_eq_true rfl) ⟨Nat.le_of_ble_eq_true rfl, Nat.le_of_ble_eq_true rfl⟩) (ws' := [(a_t, .inr (1, [.ref b_port, .ref a_choice, .ref b_left, .ref a_nameOf, .ref a_hullOf, .ref b_best])), (a_choice, .inl (cI, 6, .inl f_choice)), (a_hullOf, .inl (cI, 5, .inl f_hullOf)), (a_nameOf, .inl (cI, 6, .inl f_nameOf))]) rfl ?_
          refine ww_if_eq B 75 dX1_takes_46 (by decide) (fun c_46 => ?_) (fun c_46 => ?_)
          · replace h := og_t c_46 h
            refine ww_iconst B dX1_takes_75 (v := 0) (by decide) ?_
            exact ww_zret B hA hQ hr (Or.inl rfl) dX1_takes_76 (f_hullOf, f_nameOf) [0, 1, 2, 3] rfl (by decide) (og_p h)
          · replace h := og_f c_46 h
            refine ww_aload_n B dX1_takes_49 2 rfl ?_
            refine ww_get (ci := 1) (T := TX1) (C := RX1) (N := 6) B iX1 0 rfl rfl 1 (by decide) (by decide +kernel) rfl rfl dX1_takes_50 ?_
            refine ww_iload_n B dX1_takes_53 3 rfl ?_
            obtain ⟨i_54, h⟩ := og_i h
            refine ww_iald B 1 rfl i_54 dX1_takes_54 ?_
            refine ww_iload B dX1_takes_55 1 rfl ?_
            obtain ⟨q_57, hq_57, h⟩ := og_b h
            refine ww_ci0 B (k' := 0) (n' := 0) rfl rfl [] [0, 1, 2, 3] (wr := [(a_t, .inr (1, [.ref b_port, .ref a_choice, .ref b_left, .ref a_nameOf, .ref a_hullOf, .ref b_best])), (a_choice, .inl (cI, 6, .inl f_choice)), (a_hullOf, .inl (cI, 5, .inl f_hullOf)), (a_nameOf, .inl (cI, 6, .inl f_nameOf))]) (st := []) rfl rfl (by decide) (rr_SN B (c_X7_hasBit l D cI cZ (f_choice (Int32.toNatClampNeg v3)) v4_26 hq_57) gX1_takes_X7_hasBit_n31 rfl rfl rfl (by decide +kernel) (by decide +kernel) (by decide +kernel) (N := 2) rfl (by decide +kernel) ⟨Nat.le_of_ble_eq_true rfl, Nat.le_of_ble_eq_true rfl⟩ rfl dX1_takes_57 (Nat.le_of_ble_eq_true rfl) ⟨Nat.le_of_ble_eq_true rfl, Nat.le_of_ble_eq_true rfl⟩) (ws' := [(a_t, .inr (1, [.ref b_port, .ref a_choice, .ref b_left, .ref a_nameOf, .ref a_hullOf, .ref b_best])), (a_choice, .inl (cI, 6, .inl f_choice)), (a_hullOf, .inl (cI, 5, .inl f_hullOf)), (a_nameOf, .inl (cI, 6, .inl f_nameOf))]) rfl ?_
            refine ww_if_eq B 75 dX1_takes_60 (by decide) (fun c_60 => ?_) (fun c_60 => ?_)
            · replace h := og_t c_60 h
              refine ww_iconst B dX1_takes_75 (v := 0) (by decide) ?_
              exact ww_zret B hA hQ hr (Or.inl rfl) dX1_takes_76 (f_hullOf, f_nameOf) [0, 1, 2, 3] rfl (by decide) (og_p h)
            · replace h := og_f c_60 h
              refine ww_aload_n B dX1_takes_63 2 rfl ?_
              refine ww_get (ci := 1) (T := TX1) (C := RX1) (N := 6) B iX1 0 rfl rfl 4 (by decide) (by decide +kernel) rfl rfl dX1_takes_64 ?_
              refine ww_iload B dX1_takes_67 1 rfl ?_
              obtain ⟨i_69, h⟩ := og_i h
              refine ww_iald B 2 rfl i_69 dX1_takes_69 ?_
              refine ww_bipush B dX1_takes_70 (v := (-6)) (by decide) ?_
              refine ww_icmp_eq B 77 dX1_takes_72 (by decide) (fun c_72 => ?_) (fun c_72 => ?_)
              · replace h := og_t c_72 h
                refine ww_aload_n B dX1_takes_77 2 rfl ?_
                refine ww_iload_n B dX1_takes_78 3 rfl ?_
                refine ww_iload B dX1_takes_79 1 rfl ?_
                obtain ⟨q_81, hq_81, h⟩ := og_b h
                refine ww_cvM B (k' := 0) (n' := 0) rfl rfl [0, 2, 3] [1] (wr := [(a_choice, .inl (cI, 6, .inl f_choice))]) (st := []) rfl rfl (by decide) (rr_V B (c_X1_give l D cI cZ a_t a_hullOf a_nameOf b_port a_choice b_left b_best f_hullOf f_nameOf v3 v4_26 hq_81) gX1_takes_X1_give rfl rfl rfl (N := 2) rfl (by decide +kernel) ⟨Nat.le_of_ble_eq_true rfl, Nat.le_of_ble_eq_true rfl⟩ rfl dX1_takes_81 0 rfl rfl (Nat.le_of_ble_eq_true rfl) ⟨Nat.le_of_ble_eq_true rfl, Nat.le_of_ble_eq_true rfl⟩) (ws' := [(a_choice, .inl (cI, 6, .inl f_choice)), (a_t, .inr (1, [.ref b_port, .ref a_choice, .ref b_left, .ref a_nameOf, .ref a_hullOf, .ref b_best])), (a_hullOf, .inl (cI, 5, .inl q_81.1)), (a_nameOf, .inl (cI, 6, .inl q_81.2))]) rfl ?_
                refine ww_sub (ws' := [(a_t, .inr (1, [.ref b_port, .ref a_choice, .ref b_left, .ref a_nameOf, .ref a_hullOf, .ref b_best])), (a_choice, .inl (cI, 6, .inl f_choice)), (a_hullOf, .inl (cI, 5, .inl q_81.1)), (a_nameOf, .inl (cI, 6, .inl q_81.2))]) [1, 0, 2, 3] rfl (by decide) ?_
                refine ww_lsel (lv' := [(0, .ref a_t), (2, .int v2_32), (3, .int v3)]) [2, 0, 3] rfl ?_
                exact cut_84 _ _ _ _ h
              · replace h := og_f c_72 h
                refine ww_iconst B dX1_takes_75 (v := 0) (by decide) ?_
                exact ww_zret B hA hQ hr (Or.inl rfl) dX1_takes_76 (f_hullOf, f_nameOf) [0, 1, 2, 3] rfl (by decide) (og_p h)
        · replace h := og_f c_35 h
          refine ww_goto B 84 dX1_takes_38 (by decide) ?_
          refine ww_lsel (lv' := [(0, .ref a_t), (2, .int v2_32), (3, .int v3)]) [2, 0, 3] rfl ?_
          exact cut_84 _ _ _ _ h
  refine ww_iload_n B dX1_takes_0 1 rfl ?_
  refine ww_iconst B dX1_takes_1 (v := 0) (by decide) ?_
  refine ww_ldc B (v := 999999) (by decide +kernel) dX1_takes_2 ?_
  obtain ⟨q_4, hq_4, h⟩ := og_b h
  refine ww_ci0 B (k' := 0) (n' := 0) rfl rfl [] [0, 1, 2, 3] (wr := [(a_t, .inr (1, [.ref b_port, .ref a_choice, .ref b_left, .ref a_nameOf, .ref a_hullOf, .ref b_best])), (a_choice, .inl (cI, 6, .inl f_choice)), (a_hullOf, .inl (cI, 5, .inl f_hullOf)), (a_nameOf, .inl (cI, 6, .inl f_nameOf))]) (st := []) rfl rfl (by decide) (rr_SN B (c_X7_isWithin l D cI cZ v1 0 999999 hq_4) gX1_takes_X7_isWithin_n105 rfl rfl rfl (by decide +kernel) (by decide +kernel) (by decide +kernel) (N := 3) rfl (by decide +kernel) ⟨Nat.le_of_ble_eq_true rfl, Nat.le_of_ble_eq_true rfl⟩ rfl dX1_takes_4 (Nat.le_of_ble_eq_true rfl) ⟨Nat.le_of_ble_eq_true rfl, Nat.le_of_ble_eq_true rfl⟩) (ws' := [(a_t, .inr (1, [.ref b_port, .ref a_choice, .ref b_left, .ref a_nameOf, .ref a_hullOf, .ref b_best])), (a_choice, .inl (cI, 6, .inl f_choice)), (a_hullOf, .inl (cI, 5, .inl f_hullOf)), (a_nameOf, .inl (cI, 6, .inl f_nameOf))]) rfl ?_
  refine ww_if_ne B 12 dX1_takes_7 (by decide) (fun c_7 => ?_) (fun c_7 => ?_)
  · replace h := og_f c_7 h
    refine ww_iload_n B dX1_takes_12 1 rfl ?_
    refine ww_istore_n B dX1_takes_13 (lv' := [(2, .int v1), (0, .ref a_t), (1, .int v1)]) (by decide) rfl ?_
    refine ww_iconst B dX1_takes_14 (v := 5) (by decide) ?_
    refine ww_istore_n B dX1_takes_15 (lv' := [(3, .int 5), (2, .int v1), (0, .ref a_t), (1, .int v1)]) (by decide) rfl ?_
    refine ww_lsel (lv' := [(0, .ref a_t), (2, .int v1), (3, .int 5)]) [2, 1, 0] rfl ?_
    exact cut_16 _ _ _ _ _ h
  · replace h := og_t c_7 h
    refine ww_iconst B dX1_takes_10 (v := 0) (by decide) ?_
    exact ww_zret B hA hQ hr (Or.inl rfl) dX1_takes_11 (f_hullOf, f_nameOf) [0, 1, 2, 3] rfl (by decide) (og_p h)
