noncomputable def m_X3_placeOf_12b (k12 : Int32 → Int32 → Int32 → Option Int32) (f_rank : (Nat → Int32)) (v2 : Int32) (v3 : Int32) (v4 : Int32) : Option Int32 := if v4 ≤ 0 then (some 0) else (if (v3 - v3 / 10 * 10) = v2 then (some v4) else (ogl (v3 / 10) (fun (v3_32 : Int32) => ogl (v4 + (-1)) (fun (v4_33 : Int32) => (k12 v2 v3_32 v4_33)))))
noncomputable def m_X3_placeOf_12 (f_rank : (Nat → Int32)) (fuel : Nat) : Int32 → Int32 → Int32 → Option Int32 := Nat.rec (fun _ _ _ => none) (fun _ k12 => m_X3_placeOf_12b k12 f_rank) fuel
noncomputable def m_X3_placeOf (f_rank : (Nat → Int32)) (v1 : Int32) (v2 : Int32) : Option Int32 := ogb (m_X7_at 5 f_rank v1) (fun q_5 => (m_X3_placeOf_12 f_rank 1000000 v2 q_5 5))
set_option maxHeartbeats 4000000 in
set_option maxRecDepth 100000 in
theorem c_X3_placeOf (l : Launch) (D : va_G) (cI cZ : ClassId) (a_t a_rank b_may b_voyage b_luck b_worth : Nat) (f_rank : (Nat → Int32)) (v1 : Int32) (v2 : Int32) {res : Int32} (h : m_X3_placeOf f_rank v1 v2 = some res) : CT l yX3_placeOf wsX3_placeOf ({ frames := 1, cells := 0, slots := 0, locals := 21 } : Room) D cI cZ [.ref a_t, .int v1, .int v2] [(a_t, .inr (3, [.ref b_may, .ref b_voyage, .ref b_luck, .ref a_rank, .ref b_worth])), (a_rank, .inl (cI, 5, .inl f_rank))] (QI D [(a_t, .inr (3, [.ref b_may, .ref b_voyage, .ref b_luck, .ref a_rank, .ref b_worth])), (a_rank, .inl (cI, 5, .inl f_rank))] (fun (r : Int32) (_ : Unit) => r = res) (fun (u : Unit) => [(a_t, .inr (3, [.ref b_may, .ref b_voyage, .ref b_luck, .ref a_rank, .ref b_worth])), (a_rank, .inl (cI, 5, .inl f_rank))])) 0 0 := by
  have h : (ogb (m_X7_at 5 f_rank v1) (fun q_5 => (m_X3_placeOf_12 f_rank 1000000 v2 q_5 5)) : Option Int32) = some res := h
  refine ct_entry (cc := cX3_placeOf) (nl := 5) (ret := (some .int)) (own := RX3) (lv0 := [(0, .ref a_t), (1, .int v1), (2, .int v2)]) (by decide) rfl rfl (Nat.le_of_ble_eq_true rfl) rfl ?_
  intro p e s m args below meth c A Q hA hQ hr hnm B
  have iX3 : ∀ w ∈ wsX30, w ∈ wsX3_placeOf := by decide +kernel
  have cut_12 : ∀ (fuel : Nat) (v2 : Int32) (v3 : Int32) (v4 : Int32), m_X3_placeOf_12 f_rank fuel v2 v3 v4 = some res → WW p l e (headSpec wsX3_placeOf ({ frames := 1, cells := 0, slots := 0, locals := 21 } : Room)).room s m args below meth c D A 5 0 0 Q [(a_t, .inr (3, [.ref b_may, .ref b_voyage, .ref b_luck, .ref a_rank, .ref b_worth])), (a_rank, .inl (cI, 5, .inl f_rank))] [(2, .int v2), (3, .int v3), (4, .int v4)] [] 12 := by
    intro fuel_12
    induction fuel_12 with
    | zero => intro v2 v3 v4 h; exact og_0 h
    | succ fuel_12 ih_12 =>
      intro v2 v3 v4 h
      replace h : (if v4 ≤ 0 then (some 0) else (if (v3 - v3 / 10 * 10) = v2 then (some v4) else (ogl (v3 / 10) (fun (v3_32 : Int32) => ogl (v4 + (-1)) (fun (v4_33 : Int32) => ((m_X3_placeOf_12 f_rank fuel_12) v2 v3_32 v4_33))))) : Option Int32) = some res := h
      refine ww_iload B dX3_placeOf_12 2 rfl ?_
      refine ww_if_le B 39 dX3_placeOf_14 (by decide) (fun c_14 => ?_) (fun c_14 => ?_)
      · replace h := og_t c_14 h
        refine ww_iconst B dX3_placeOf_39 (v := 0) (by decide) ?_
        exact ww_iret B hA hQ hr dX3_placeOf_40 () [0, 1] rfl (by decide) (og_s h).symm
      · replace h := og_f c_14 h
        refine ww_iload_n B dX3_placeOf_17 1 rfl ?_
        refine ww_bipush B dX3_placeOf_18 (v := 10) (by decide) ?_
        refine ww_irem B dX3_placeOf_20 (by decide) ?_
        refine ww_iload_n B dX3_placeOf_21 0 rfl ?_
        refine ww_icmp_ne B 28 dX3_placeOf_22 (by decide) (fun c_22 => ?_) (fun c_22 => ?_)
        · replace h := og_f c_22 h
          refine ww_iload_n B dX3_placeOf_28 1 rfl ?_
          refine ww_bipush B dX3_placeOf_29 (v := 10) (by decide) ?_
          refine ww_idiv B dX3_placeOf_31 (by decide) ?_
          refine ww_topi (fun v3_32 ev3_32 => ?_)
          replace h := og_l ev3_32 h
          refine ww_istore_n B dX3_placeOf_32 (lv' := [(3, .int v3_32), (2, .int v2), (4, .int v4)]) (by decide) rfl ?_
          obtain ⟨v4_33, ev4_33⟩ : ∃ y : Int32, y = (v4 + (-1)) := ⟨_, rfl⟩
          refine ww_iinc B dX3_placeOf_33 2 rfl (v := v4_33) (by rw [ev4_33]; rfl) (by decide) (lv' := [(4, .int v4_33), (3, .int v3_32), (2, .int v2)]) rfl ?_
          replace h := og_l ev4_33 h
          refine ww_goto B 12 dX3_placeOf_36 (by decide) ?_
          refine ww_lsel (lv' := [(2, .int v2), (3, .int v3_32), (4, .int v4_33)]) [2, 1, 0] rfl ?_
          exact ih_12 _ _ _ h
        · replace h := og_t c_22 h
          refine ww_iload B dX3_placeOf_25 2 rfl ?_
          exact ww_iret B hA hQ hr dX3_placeOf_27 () [0, 1] rfl (by decide) (og_s h).symm
  refine ww_aload_n B dX3_placeOf_0 0 rfl ?_
  refine ww_get (ci := 3) (T := TX3) (C := RX3) (N := 5) B iX3 0 rfl rfl 3 (by decide) (by decide +kernel) rfl rfl dX3_placeOf_1 ?_
  refine ww_iload_n B dX3_placeOf_4 1 rfl ?_
  obtain ⟨q_5, hq_5, h⟩ := og_b h
  refine ww_ci0 B (k' := 0) (n' := 0) rfl rfl [1] [0] (wr := [(a_t, .inr (3, [.ref b_may, .ref b_voyage, .ref b_luck, .ref a_rank, .ref b_worth]))]) (st := []) rfl rfl (by decide) (rr_SN B (c_X7_at l D cI cZ a_rank 5 f_rank v1 hq_5) gX3_placeOf_X7_at_n46 rfl rfl rfl (by decide +kernel) (by decide +kernel) (by decide +kernel) (N := 2) rfl (by decide +kernel) ⟨Nat.le_of_ble_eq_true rfl, Nat.le_of_ble_eq_true rfl⟩ rfl dX3_placeOf_5 (Nat.le_of_ble_eq_true rfl) ⟨Nat.le_of_ble_eq_true rfl, Nat.le_of_ble_eq_true rfl⟩) (ws' := [(a_t, .inr (3, [.ref b_may, .ref b_voyage, .ref b_luck, .ref a_rank, .ref b_worth])), (a_rank, .inl (cI, 5, .inl f_rank))]) rfl ?_
  refine ww_istore_n B dX3_placeOf_8 (lv' := [(3, .int q_5), (0, .ref a_t), (1, .int v1), (2, .int v2)]) (by decide) rfl ?_
  refine ww_iconst B dX3_placeOf_9 (v := 5) (by decide) ?_
  refine ww_istore B dX3_placeOf_10 (lv' := [(4, .int 5), (3, .int q_5), (0, .ref a_t), (1, .int v1), (2, .int v2)]) (by decide) rfl ?_
  refine ww_lsel (lv' := [(2, .int v2), (3, .int q_5), (4, .int 5)]) [4, 1, 0] rfl ?_
  exact cut_12 _ _ _ _ h
noncomputable def m_X3_worthOf (f_worth : (Nat → Int32)) (v1 : Int32) (v2 : Int32) : Option Int32 := ogb (m_X7_isHull v1) (fun q_1 => if q_1 = 0 then (some 0) else (ogb (m_X7_isName v2) (fun q_8 => if q_8 = 0 then (some 0) else (ogi ((v1 * 5) + v2) 30 (some (f_worth (Int32.toNatClampNeg ((v1 * 5) + v2))))))))
set_option maxHeartbeats 4000000 in
set_option maxRecDepth 100000 in
theorem c_X3_worthOf (l : Launch) (D : va_G) (cI cZ : ClassId) (a_t a_worth b_may b_voyage b_luck b_rank : Nat) (f_worth : (Nat → Int32)) (v1 : Int32) (v2 : Int32) {res : Int32} (h : m_X3_worthOf f_worth v1 v2 = some res) : CT l yX3_worthOf wsX3_worthOf ({ frames := 1, cells := 0, slots := 0, locals := 20 } : Room) D cI cZ [.ref a_t, .int v1, .int v2] [(a_t, .inr (3, [.ref b_may, .ref b_voyage, .ref b_luck, .ref b_rank, .ref a_worth])), (a_worth, .inl (cI, 30, .inl f_worth))] (QI D [(a_t, .inr (3, [.ref b_may, .ref b_voyage, .ref b_luck, .ref b_rank, .ref a_worth])), (a_worth, .inl (cI, 30, .inl f_worth))] (fun (r : Int32) (_ : Unit) => r = res) (fun (u : Unit) => [(a_t, .inr (3, [.ref b_may, .ref b_voyage, .ref b_luck, .ref b_rank, .ref a_worth])), (a_worth, .inl (cI, 30, .inl f_worth))])) 0 0 := by
  have h : (ogb (m_X7_isHull v1) (fun q_1 => if q_1 = 0 then (some 0) else (ogb (m_X7_isName v2) (fun q_8 => if q_8 = 0 then (some 0) else (ogi ((v1 * 5) + v2) 30 (some (f_worth (Int32.toNatClampNeg ((v1 * 5) + v2)))))))) : Option Int32) = some res := h
  refine ct_entry (cc := cX3_worthOf) (nl := 3) (ret := (some .int)) (own := RX3) (lv0 := [(0, .ref a_t), (1, .int v1), (2, .int v2)]) (by decide) rfl rfl (Nat.le_of_ble_eq_true rfl) rfl ?_
  intro p e s m args below meth c A Q hA hQ hr hnm B
  have iX3 : ∀ w ∈ wsX30, w ∈ wsX3_worthOf := by decide +kernel
  refine ww_iload_n B dX3_worthOf_0 1 rfl ?_
  obtain ⟨q_1, hq_1, h⟩ := og_b h
  refine ww_ci0 B (k' := 0) (n' := 0) rfl rfl [] [0, 1] (wr := [(a_t, .inr (3, [.ref b_may, .ref b_voyage, .ref b_luck, .ref b_rank, .ref a_worth])), (a_worth, .inl (cI, 30, .inl f_worth))]) (st := []) rfl rfl (by decide) (rr_SN B (c_X7_isHull l D cI cZ v1 hq_1) gX3_worthOf_X7_isHull_n35 rfl rfl rfl (by decide +kernel) (by decide +kernel) (by decide +kernel) (N := 1) rfl (by decide +kernel) ⟨Nat.le_of_ble_eq_true rfl, Nat.le_of_ble_eq_true rfl⟩ rfl dX3_worthOf_1 (Nat.le_of_ble_eq_true rfl) ⟨Nat.le_of_ble_eq_true rfl, Nat.le_of_ble_eq_true rfl⟩) (ws' := [(a_t, .inr (3, [.ref b_may, .ref b_voyage, .ref b_luck, .ref b_rank, .ref a_worth])), (a_worth, .inl (cI, 30, .inl f_worth))]) rfl ?_
  refine ww_if_eq B 27 dX3_worthOf_4 (by decide) (fun c_4 => ?_) (fun c_4 => ?_)
  · replace h := og_t c_4 h
    refine ww_iconst B dX3_worthOf_27 (v := 0) (by decide) ?_
    exact ww_iret B hA hQ hr dX3_worthOf_28 () [0, 1] rfl (by decide) (og_s h).symm
  · replace h := og_f c_4 h
    refine ww_iload_n B dX3_worthOf_7 2 rfl ?_
    obtain ⟨q_8, hq_8, h⟩ := og_b h
    refine ww_ci0 B (k' := 0) (n' := 0) rfl rfl [] [0, 1] (wr := [(a_t, .inr (3, [.ref b_may, .ref b_voyage, .ref b_luck, .ref b_rank, .ref a_worth])), (a_worth, .inl (cI, 30, .inl f_worth))]) (st := []) rfl rfl (by decide) (rr_SN B (c_X7_isName l D cI cZ v2 hq_8) gX3_worthOf_X7_isName_n43 rfl rfl rfl (by decide +kernel) (by decide +kernel) (by decide +kernel) (N := 1) rfl (by decide +kernel) ⟨Nat.le_of_ble_eq_true rfl, Nat.le_of_ble_eq_true rfl⟩ rfl dX3_worthOf_8 (Nat.le_of_ble_eq_true rfl) ⟨Nat.le_of_ble_eq_true rfl, Nat.le_of_ble_eq_true rfl⟩) (ws' := [(a_t, .inr (3, [.ref b_may, .ref b_voyage, .ref b_luck, .ref b_rank, .ref a_worth])), (a_worth, .inl (cI, 30, .inl f_worth))]) rfl ?_
    refine ww_if_eq B 27 dX3_worthOf_11 (by decide) (fun c_11 => ?_) (fun c_11 => ?_)
    · replace h := og_t c_11 h
      refine ww_iconst B dX3_worthOf_27 (v := 0) (by decide) ?_
      exact ww_iret B hA hQ hr dX3_worthOf_28 () [0, 1] rfl (by decide) (og_s h).symm
    · replace h := og_f c_11 h
      refine ww_aload_n B dX3_worthOf_14 0 rfl ?_
      refine ww_get (ci := 3) (T := TX3) (C := RX3) (N := 5) B iX3 0 rfl rfl 4 (by decide) (by decide +kernel) rfl rfl dX3_worthOf_15 ?_
      refine ww_iload_n B dX3_worthOf_18 1 rfl ?_
      refine ww_iconst B dX3_worthOf_19 (v := 5) (by decide) ?_
      refine ww_imul B dX3_worthOf_20 ?_
      refine ww_iload_n B dX3_worthOf_21 2 rfl ?_
      refine ww_iadd B dX3_worthOf_22 ?_
      obtain ⟨i_23, h⟩ := og_i h
      refine ww_iald B 1 rfl i_23 dX3_worthOf_23 ?_
      refine ww_goto B 28 dX3_worthOf_24 (by decide) ?_
      exact ww_iret B hA hQ hr dX3_worthOf_28 () [0, 1] rfl (by decide) (og_s h).symm
noncomputable def m_X3_copy (f_r0_luck : (Nat → Int32)) (f_r0_may : (Nat → Int32)) (f_r0_rank : (Nat → Int32)) (f_r0_voyage : (Nat → Int32)) (f_r0_worth : (Nat → Int32)) (f_luck : (Nat → Int32)) (f_may : (Nat → Int32)) (f_rank : (Nat → Int32)) (f_voyage : (Nat → Int32)) (f_worth : (Nat → Int32)) : Option ((Nat → Int32) × (Nat → Int32) × (Nat → Int32) × (Nat → Int32) × (Nat → Int32)) := ogb (m_X7_copyRow 6 6 f_r0_may f_may) (fun q_8 => ogb (m_X7_copyRow 6 6 f_r0_voyage f_voyage) (fun q_19 => ogb (m_X7_copyRow 5 5 f_r0_luck f_luck) (fun q_30 => ogb (m_X7_copyRow 5 5 f_r0_rank f_rank) (fun q_41 => ogb (m_X7_copyRow 30 30 f_r0_worth f_worth) (fun q_52 => some (q_30, q_8, q_41, q_19, q_52))))))
set_option maxHeartbeats 4000000 in
set_option maxRecDepth 100000 in
theorem c_X3_copy (l : Launch) (D : va_G) (cI cZ : ClassId) (a_r0 a_t a_r0_luck a_r0_may a_r0_rank a_r0_voyage a_r0_worth a_luck a_may a_rank a_voyage a_worth : Nat) (f_r0_luck : (Nat → Int32)) (f_r0_may : (Nat → Int32)) (f_r0_rank : (Nat → Int32)) (f_r0_voyage : (Nat → Int32)) (f_r0_worth : (Nat → Int32)) (f_luck : (Nat → Int32)) (f_may : (Nat → Int32)) (f_rank : (Nat → Int32)) (f_voyage : (Nat → Int32)) (f_worth : (Nat → Int32)) {res : ((Nat → Int32) × (Nat → Int32) × (Nat → Int32) × (Nat → Int32) × (Nat → Int32))} (h : m_X3_copy f_r0_luck f_r0_may f_r0_rank f_r0_voyage f_r0_worth f_luck f_may f_rank f_voyage f_worth = some res) : CT l yX3_copy wsX3_copy ({ frames := 1, cells := 0, slots := 0, locals := 22 } : Room) D cI cZ [.ref a_t, .ref a_r0] [(a_r0, .inr (3, [.ref a_r0_may, .ref a_r0_voyage, .ref a_r0_luck, .ref a_r0_rank, .ref a_r0_worth])), (a_t, .inr (3, [.ref a_may, .ref a_voyage, .ref a_luck, .ref a_rank, .ref a_worth])), (a_r0_luck, .inl (cI, 5, .inl f_r0_luck)), (a_r0_may, .inl (cI, 6, .inl f_r0_may)), (a_r0_rank, .inl (cI, 5, .inl f_r0_rank)), (a_r0_voyage, .inl (cI, 6, .inl f_r0_voyage)), (a_r0_worth, .inl (cI, 30, .inl f_r0_worth)), (a_luck, .inl (cI, 5, .inl f_luck)), (a_may, .inl (cI, 6, .inl f_may)), (a_rank, .inl (cI, 5, .inl f_rank)), (a_voyage, .inl (cI, 6, .inl f_voyage)), (a_worth, .inl (cI, 30, .inl f_worth))] (QV D [(a_r0, .inr (3, [.ref a_r0_may, .ref a_r0_voyage, .ref a_r0_luck, .ref a_r0_rank, .ref a_r0_worth])), (a_t, .inr (3, [.ref a_may, .ref a_voyage, .ref a_luck, .ref a_rank, .ref a_worth])), (a_r0_luck, .inl (cI, 5, .inl f_r0_luck)), (a_r0_may, .inl (cI, 6, .inl f_r0_may)), (a_r0_rank, .inl (cI, 5, .inl f_r0_rank)), (a_r0_voyage, .inl (cI, 6, .inl f_r0_voyage)), (a_r0_worth, .inl (cI, 30, .inl f_r0_worth)), (a_luck, .inl (cI, 5, .inl f_luck)), (a_may, .inl (cI, 6, .inl f_may)), (a_rank, .inl (cI, 5, .inl f_rank)), (a_voyage, .inl (cI, 6, .inl f_voyage)), (a_worth, .inl (cI, 30, .inl f_worth))] (fun (u : (Nat → Int32) × (Nat → Int32) × (Nat → Int32) × (Nat → Int32) × (Nat → Int32)) => u = res) (fun (u : (Nat → Int32) × (Nat → Int32) × (Nat → Int32) × (Nat → Int32) × (Nat → Int32)) => [(a_r0, .inr (3, [.ref a_r0_may, .ref a_r0_voyage, .ref a_r0_luck, .ref a_r0_rank, .ref a_r0_worth])), (a_t, .inr (3, [.ref a_may, .ref a_voyage, .ref a_luck, .ref a_rank, .ref a_worth])), (a_r0_luck, .inl (cI, 5, .inl f_r0_luck)), (a_r0_may, .inl (cI, 6, .inl f_r0_may)), (a_r0_rank, .inl (cI, 5, .inl f_r0_rank)), (a_r0_voyage, .inl (cI, 6, .inl f_r0_voyage)), (a_r0_worth, .inl (cI, 30, .inl f_r0_worth)), (a_luck, .inl (cI, 5, .inl u.1)), (a_may, .inl (cI, 6, .inl u.2.1)), (a_rank, .inl (cI, 5, .inl u.2.2.1)), (a_voyage, .inl (cI, 6, .inl u.2.2.2.1)), (a_worth, .inl (cI, 30, .inl u.2.2.2.2))])) 0 0 := by
  have h : (ogb (m_X7_copyRow 6 6 f_r0_may f_may) (fun q_8 => ogb (m_X7_copyRow 6 6 f_r0_voyage f_voyage) (fun q_19 => ogb (m_X7_copyRow 5 5 f_r0_luck f_luck) (fun q_30 => ogb (m_X7_copyRow 5 5 f_r0_rank f_rank) (fun q_41 => ogb (m_X7_copyRow 30 30 f_r0_worth f_worth) (fun q_52 => some (q_30, q_8, q_41, q_19, q_52)))))) : Option ((Nat → Int32) × (Nat → Int32) × (Nat → Int32) × (Nat → Int32) × (Nat → Int32))) = some res := h
  refine ct_entry (cc := cX3_copy) (nl := 2) (ret := none) (own := RX3) (lv0 := [(0, .ref a_t), (1, .ref a_r0)]) (by decide) rfl rfl (Nat.le_of_ble_eq_true rfl) rfl ?_
  intro p e s m args below meth c A Q hA hQ hr hnm B
  have iX3 : ∀ w ∈ wsX30, w ∈ wsX3_copy := by decide +kernel
  refine ww_aload_n B dX3_copy_0 1 rfl ?_
  refine ww_get (ci := 3) (T := TX3) (C := RX3) (N := 5) B iX3 0 rfl rfl 0 (by decide) (by decide +kernel) rfl rfl dX3_copy_1 ?_
  refine ww_aload_n B dX3_copy_4 0 rfl ?_
  refine ww_get (ci := 3) (T := TX3) (C := RX3) (N := 5) B iX3 1 rfl rfl 0 (by decide) (by decide +kernel) rfl rfl dX3_copy_5 ?_
  obtain ⟨q_8, hq_8, h⟩ := og_b h
  refine ww_cvM B (k' := 0) (n' := 0) rfl rfl [3, 8] [0, 1, 2, 4, 5, 6, 7, 9, 10, 11] (wr := [(a_r0, .inr (3, [.ref a_r0_may, .ref a_r0_voyage, .ref a_r0_luck, .ref a_r0_rank, .ref a_r0_worth])), (a_t, .inr (3, [.ref a_may, .ref a_voyage, .ref a_luck, .ref a_rank, .ref a_worth])), (a_r0_luck, .inl (cI, 5, .inl f_r0_luck)), (a_r0_rank, .inl (cI, 5, .inl f_r0_rank)), (a_r0_voyage, .inl (cI, 6, .inl f_r0_voyage)), (a_r0_worth, .inl (cI, 30, .inl f_r0_worth)), (a_luck, .inl (cI, 5, .inl f_luck)), (a_rank, .inl (cI, 5, .inl f_rank)), (a_voyage, .inl (cI, 6, .inl f_voyage)), (a_worth, .inl (cI, 30, .inl f_worth))]) (st := []) rfl rfl (by decide) (rr_SN B (c_X7_copyRow l D cI cZ a_r0_may a_may 6 6 f_r0_may f_may hq_8) gX3_copy_X7_copyRow_n31 rfl rfl rfl (by decide +kernel) (by decide +kernel) (by decide +kernel) (N := 2) rfl (by decide +kernel) ⟨Nat.le_of_ble_eq_true rfl, Nat.le_of_ble_eq_true rfl⟩ rfl dX3_copy_8 (Nat.le_of_ble_eq_true rfl) ⟨Nat.le_of_ble_eq_true rfl, Nat.le_of_ble_eq_true rfl⟩) (ws' := [(a_r0, .inr (3, [.ref a_r0_may, .ref a_r0_voyage, .ref a_r0_luck, .ref a_r0_rank, .ref a_r0_worth])), (a_t, .inr (3, [.ref a_may, .ref a_voyage, .ref a_luck, .ref a_rank, .ref a_worth])), (a_r0_luck, .inl (cI, 5, .inl f_r0_luck)), (a_r0_rank, .inl (cI, 5, .inl f_r0_rank)), (a_r0_voyage, .inl (cI, 6, .inl f_r0_voyage)), (a_r0_worth, .inl (cI, 30, .inl f_r0_worth)), (a_luck, .inl (cI, 5, .inl f_luck)), (a_rank, .inl (cI, 5, .inl f_rank)), (a_voyage, .inl (cI, 6, .inl f_voyage)), (a_worth, .inl (cI, 30, .inl f_worth)), (a_r0_may, .inl (cI, 6, .inl f_r0_may)), (a_may, .inl (cI, 6, .inl q_8))]) rfl ?_
  refine ww_aload_n B dX3_copy_11 1 rfl ?_
  refine ww_get (ci := 3) (T := TX3) (C := RX3) (N := 5) B iX3 0 rfl rfl 1 (by decide) (by decide +kernel) rfl rfl dX3_copy_12 ?_
  refine ww_aload_n B dX3_copy_15 0 rfl ?_
  refine ww_get (ci := 3) (T := TX3) (C := RX3) (N := 5) B iX3 1 rfl rfl 1 (by decide) (by decide +kernel) rfl rfl dX3_copy_16 ?_
  obtain ⟨q_19, hq_19, h⟩ := og_b h
  refine ww_cvM B (k' := 0) (n' := 0) rfl rfl [4, 8] [0, 1, 2, 3, 5, 6, 7, 9, 10, 11] (wr := [(a_r0, .inr (3, [.ref a_r0_may, .ref a_r0_voyage, .ref a_r0_luck, .ref a_r0_rank, .ref a_r0_worth])), (a_t, .inr (3, [.ref a_may, .ref a_voyage, .ref a_luck, .ref a_rank, .ref a_worth])), (a_r0_luck, .inl (cI, 5, .inl f_r0_luck)), (a_r0_rank, .inl (cI, 5, .inl f_r0_rank)), (a_r0_worth, .inl (cI, 30, .inl f_r0_worth)), (a_luck, .inl (cI, 5, .inl f_luck)), (a_rank, .inl (cI, 5, .inl f_rank)), (a_worth, .inl (cI, 30, .inl f_worth)), (a_r0_may, .inl (cI, 6, .inl f_r0_may)), (a_may, .inl (cI, 6, .inl q_8))]) (st := []) rfl rfl (by decide) (rr_SN B (c_X7_copyRow l D cI cZ a_r0_voyage a_voyage 6 6 f_r0_voyage f_voyage hq_19) gX3_copy_X7_copyRow_n31 rfl rfl rfl (by decide +kernel) (by decide +kernel) (by decide +kernel) (N := 2) rfl (by decide +kernel) ⟨Nat.le_of_ble_eq_true rfl, Nat.le_of_ble_eq_true rfl⟩ rfl dX3_copy_19 (Nat.le_of_ble_eq_true rfl) ⟨Nat.le_of_ble_eq_true rfl, Nat.le_of_ble_eq_true rfl⟩) (ws' := [(a_r0, .inr (3, [.ref a_r0_may, .ref a_r0_voyage, .ref a_r0_luck, .ref a_r0_rank, .ref a_r0_worth])), (a_t, .inr (3, [.ref a_may, .ref a_voyage, .ref a_luck, .ref a_rank, .ref a_worth])), (a_r0_luck, .inl (cI, 5, .inl f_r0_luck)), (a_r0_rank, .inl (cI, 5, .inl f_r0_rank)), (a_r0_worth, .inl (cI, 30, .inl f_r0_worth)), (a_luck, .inl (cI, 5, .inl f_luck)), (a_rank, .inl (cI, 5, .inl f_rank)), (a_worth, .inl (cI, 30, .inl f_worth)), (a_r0_may, .inl (cI, 6, .inl f_r0_may)), (a_may, .inl (cI, 6, .inl q_8)), (a_r0_voyage, .inl (cI, 6, .inl f_r0_voyage)), (a_voyage, .inl (cI, 6, .inl q_19))]) rfl ?_
  refine ww_aload_n B dX3_copy_22 1 rfl ?_
  refine ww_get (ci := 3) (T := TX3) (C := RX3) (N := 5) B iX3 0 rfl rfl 2 (by decide) (by decide +kernel) rfl rfl dX3_copy_23 ?_
  refine ww_aload_n B dX3_copy_26 0 rfl ?_
  refine ww_get (ci := 3) (T := TX3) (C := RX3) (N := 5) B iX3 1 rfl rfl 2 (by decide) (by decide +kernel) rfl rfl dX3_copy_27 ?_
  obtain ⟨q_30, hq_30, h⟩ := og_b h
  refine ww_cvM B (k' := 0) (n' := 0) rfl rfl [2, 5] [0, 1, 3, 4, 6, 7, 8, 9, 10, 11] (wr := [(a_r0, .inr (3, [.ref a_r0_may, .ref a_r0_voyage, .ref a_r0_luck, .ref a_r0_rank, .ref a_r0_worth])), (a_t, .inr (3, [.ref a_may, .ref a_voyage, .ref a_luck, .ref a_rank, .ref a_worth])), (a_r0_rank, .inl (cI, 5, .inl f_r0_rank)), (a_r0_worth, .inl (cI, 30, .inl f_r0_worth)), (a_rank, .inl (cI, 5, .inl f_rank)), (a_worth, .inl (cI, 30, .inl f_worth)), (a_r0_may, .inl (cI, 6, .inl f_r0_may)), (a_may, .inl (cI, 6, .inl q_8)), (a_r0_voyage, .inl (cI, 6, .inl f_r0_voyage)), (a_voyage, .inl (cI, 6, .inl q_19))]) (st := []) rfl rfl (by decide) (rr_SN B (c_X7_copyRow l D cI cZ a_r0_luck a_luck 5 5 f_r0_luck f_luck hq_30) gX3_copy_X7_copyRow_n31 rfl rfl rfl (by decide +kernel) (by decide +kernel) (by decide +kernel) (N := 2) rfl (by decide +kernel) ⟨Nat.le_of_ble_eq_true rfl, Nat.le_of_ble_eq_true rfl⟩ rfl dX3_copy_30 (Nat.le_of_ble_eq_true rfl) ⟨Nat.le_of_ble_eq_true rfl, Nat.le_of_ble_eq_true rfl⟩) (ws' := [(a_r0, .inr (3, [.ref a_r0_may, .ref a_r0_voyage, .ref a_r0_luck, .ref a_r0_rank, .ref a_r0_worth])), (a_t, .inr (3, [.ref a_may, .ref a_voyage, .ref a_luck, .ref a_rank, .ref a_worth])), (a_r0_rank, .inl (cI, 5, .inl f_r0_rank)), (a_r0_worth, .inl (cI, 30, .inl f_r0_worth)), (a_rank, .inl (cI, 5, .inl f_rank)), (a_worth, .inl (cI, 30, .inl f_worth)), (a_r0_may, .inl (cI, 6, .inl f_r0_may)), (a_may, .inl (cI, 6, .inl q_8)), (a_r0_voyage, .inl (cI, 6, .inl f_r0_voyage)), (a_voyage, .inl (cI, 6, .inl q_19)), (a_r0_luck, .inl (cI, 5, .inl f_r0_luck)), (a_luck, .inl (cI, 5, .inl q_30))]) rfl ?_
  refine ww_aload_n B dX3_copy_33 1 rfl ?_
  refine ww_get (ci := 3) (T := TX3) (C := RX3) (N := 5) B iX3 0 rfl rfl 3 (by decide) (by decide +kernel) rfl rfl dX3_copy_34 ?_
  refine ww_aload_n B dX3_copy_37 0 rfl ?_
  refine ww_get (ci := 3) (T := TX3) (C := RX3) (N := 5) B iX3 1 rfl rfl 3 (by decide) (by decide +kernel) rfl rfl dX3_copy_38 ?_
  obtain ⟨q_41, hq_41, h⟩ := og_b h
  refine ww_cvM B (k' := 0) (n' := 0) rfl rfl [2, 4] [0, 1, 3, 5, 6, 7, 8, 9, 10, 11] (wr := [(a_r0, .inr (3, [.ref a_r0_may, .ref a_r0_voyage, .ref a_r0_luck, .ref a_r0_rank, .ref a_r0_worth])), (a_t, .inr (3, [.ref a_may, .ref a_voyage, .ref a_luck, .ref a_rank, .ref a_worth])), (a_r0_worth, .inl (cI, 30, .inl f_r0_worth)), (a_worth, .inl (cI, 30, .inl f_worth)), (a_r0_may, .inl (cI, 6, .inl f_r0_may)), (a_may, .inl (cI, 6, .inl q_8)), (a_r0_voyage, .inl (cI, 6, .inl f_r0_voyage)), (a_voyage, .inl (cI, 6, .inl q_19)), (a_r0_luck, .inl (cI, 5, .inl f_r0_luck)), (a_luck, .inl (cI, 5, .inl q_30))]) (st := []) rfl rfl (by decide) (rr_SN B (c_X7_copyRow l D cI cZ a_r0_rank a_rank 5 5 f_r0_rank f_rank hq_41) gX3_copy_X7_copyRow_n31 rfl rfl rfl (by decide +kernel) (by decide +kernel) (by decide +kernel) (N := 2) rfl (by decide +kernel) ⟨Nat.le_of_ble_eq_true rfl, Nat.le_of_ble_eq_true rfl⟩ rfl dX3_copy_41 (Nat.le_of_ble_eq_true rfl) ⟨Nat.le_of_ble_eq_true rfl, Nat.le_of_ble_eq_true rfl⟩) (ws' := [(a_r0, .inr (3, [.ref a_r0_may, .ref a_r0_voyage, .ref a_r0_luck, .ref a_r0_rank, .ref a_r0_worth])), (a_t, .inr (3, [.ref a_may, .ref a_voyage, .ref a_luck, .ref a_rank, .ref a_worth])), (a_r0_worth, .inl (cI, 30, .inl f_r0_worth)), (a_worth, .inl (cI, 30, .inl f_worth)), (a_r0_may, .inl (cI, 6, .inl f_r0_may)), (a_may, .inl (cI, 6, .inl q_8)), (a_r0_voyage, .inl (cI, 6, .inl f_r0_voyage)), (a_voyage, .inl (cI, 6, .inl q_19)), (a_r0_luck, .inl (cI, 5, .inl f_r0_luck)), (a_luck, .inl (cI, 5, .inl q_30)), (a_r0_rank, .inl (cI, 5, .inl f_r0_rank)), (a_rank, .inl (cI, 5, .inl q_41))]) rfl ?_
  refine ww_aload_n B dX3_copy_44 1 rfl ?_
  refine ww_get (ci := 3) (T := TX3) (C := RX3) (N := 5) B iX3 0 rfl rfl 4 (by decide) (by decide +kernel) rfl rfl dX3_copy_45 ?_
  refine ww_aload_n B dX3_copy_48 0 rfl ?_
  refine ww_get (ci := 3) (T := TX3) (C := RX3) (N := 5) B iX3 1 rfl rfl 4 (by decide) (by decide +kernel) rfl rfl dX3_copy_49 ?_
  obtain ⟨q_52, hq_52, h⟩ := og_b h
  refine ww_cvM B (k' := 0) (n' := 0) rfl rfl [2, 3] [0, 1, 4, 5, 6, 7, 8, 9, 10, 11] (wr := [(a_r0, .inr (3, [.ref a_r0_may, .ref a_r0_voyage, .ref a_r0_luck, .ref a_r0_rank, .ref a_r0_worth])), (a_t, .inr (3, [.ref a_may, .ref a_voyage, .ref a_luck, .ref a_rank, .ref a_worth])), (a_r0_may, .inl (cI, 6, .inl f_r0_may)), (a_may, .inl (cI, 6, .inl q_8)), (a_r0_voyage, .inl (cI, 6, .inl f_r0_voyage)), (a_voyage, .inl (cI, 6, .inl q_19)), (a_r0_luck, .inl (cI, 5, .inl f_r0_luck)), (a_luck, .inl (cI, 5, .inl q_30)), (a_r0_rank, .inl (cI, 5, .inl f_r0_rank)), (a_rank, .inl (cI, 5, .inl q_41))]) (st := []) rfl rfl (by decide) (rr_SN B (c_X7_copyRow l D cI cZ a_r0_worth a_worth 30 30 f_r0_worth f_worth hq_52) gX3_copy_X7_copyRow_n31 rfl rfl rfl (by decide +kernel) (by decide +kernel) (by decide +kernel) (N := 2) rfl (by decide +kernel) ⟨Nat.le_of_ble_eq_true rfl, Nat.le_of_ble_eq_true rfl⟩ rfl dX3_copy_52 (Nat.le_of_ble_eq_true rfl) ⟨Nat.le_of_ble_eq_true rfl, Nat.le_of_ble_eq_true rfl⟩) (ws' := [(a_r0, .inr (3, [.ref a_r0_may, .ref a_r0_voyage, .ref a_r0_luck, .ref a_r0_rank, .ref a_r0_worth])), (a_t, .inr (3, [.ref a_may, .ref a_voyage, .ref a_luck, .ref a_rank, .ref a_worth])), (a_r0_may, .inl (cI, 6, .inl f_r0_may)), (a_may, .inl (cI, 6, .inl q_8)), (a_r0_voyage, .inl (cI, 6, .inl f_r0_voyage)), (a_voyage, .inl (cI, 6, .inl q_19)), (a_r0_luck, .inl (cI, 5, .inl f_r0_luck)), (a_luck, .inl (cI, 5, .inl q_30)), (a_r0_rank, .inl (cI, 5, .inl f_r0_rank)), (a_rank, .inl (cI, 5, .inl q_41)), (a_r0_worth, .inl (cI, 30, .inl f_r0_worth)), (a_worth, .inl (cI, 30, .inl q_52))]) rfl ?_
  exact ww_vret B hA hQ hr dX3_copy_55 (q_30, q_8, q_41, q_19, q_52) [0, 1, 6, 2, 8, 4, 10, 7, 3, 9, 5, 11] rfl (by decide) (og_s h).symm
noncomputable def m_X3_lets (f_may : (Nat → Int32)) (v1 : Int32) (v2 : Int32) : Option Int32 := ogb (m_X7_isHull v1) (fun q_1 => if q_1 = 0 then (some 0) else (ogi v1 6 (ogb (m_X7_hasBit (f_may (Int32.toNatClampNeg v1)) v2) (fun q_14 => if q_14 = 0 then (some 0) else (some 1)))))
set_option maxHeartbeats 4000000 in
set_option maxRecDepth 100000 in
theorem c_X3_lets (l : Launch) (D : va_G) (cI cZ : ClassId) (a_t a_may b_voyage b_luck b_rank b_worth : Nat) (f_may : (Nat → Int32)) (v1 : Int32) (v2 : Int32) {res : Int32} (h : m_X3_lets f_may v1 v2 = some res) : CT l yX3_lets wsX3_lets ({ frames := 1, cells := 0, slots := 0, locals := 21 } : Room) D cI cZ [.ref a_t, .int v1, .int v2] [(a_t, .inr (3, [.ref a_may, .ref b_voyage, .ref b_luck, .ref b_rank, .ref b_worth])), (a_may, .inl (cI, 6, .inl f_may))] (QI D [(a_t, .inr (3, [.ref a_may, .ref b_voyage, .ref b_luck, .ref b_rank, .ref b_worth])), (a_may, .inl (cI, 6, .inl f_may))] (fun (r : Int32) (_ : Unit) => r = res) (fun (u : Unit) => [(a_t, .inr (3, [.ref a_may, .ref b_voyage, .ref b_luck, .ref b_rank, .ref b_worth])), (a_may, .inl (cI, 6, .inl f_may))])) 0 0 := by
  have h : (ogb (m_X7_isHull v1) (fun q_1 => if q_1 = 0 then (some 0) else (ogi v1 6 (ogb (m_X7_hasBit (f_may (Int32.toNatClampNeg v1)) v2) (fun q_14 => if q_14 = 0 then (some 0) else (some 1))))) : Option Int32) = some res := h
  refine ct_entry (cc := cX3_lets) (nl := 3) (ret := (some .boolean)) (own := RX3) (lv0 := [(0, .ref a_t), (1, .int v1), (2, .int v2)]) (by decide) rfl rfl (Nat.le_of_ble_eq_true rfl) rfl ?_
  intro p e s m args below meth c A Q hA hQ hr hnm B
  have iX3 : ∀ w ∈ wsX30, w ∈ wsX3_lets := by decide +kernel
  refine ww_iload_n B dX3_lets_0 1 rfl ?_
  obtain ⟨q_1, hq_1, h⟩ := og_b h
  refine ww_ci0 B (k' := 0) (n' := 0) rfl rfl [] [0, 1] (wr := [(a_t, .inr (3, [.ref a_may, .ref b_voyage, .ref b_luck, .ref b_rank, .ref b_worth])), (a_may, .inl (cI, 6, .inl f_may))]) (st := []) rfl rfl (by decide) (rr_SN B (c_X7_isHull l D cI cZ v1 hq_1) gX3_lets_X7_isHull_n35 rfl rfl rfl (by decide +kernel) (by decide +kernel) (by decide +kernel) (N := 1) rfl (by decide +kernel) ⟨Nat.le_of_ble_eq_true rfl, Nat.le_of_ble_eq_true rfl⟩ rfl dX3_lets_1 (Nat.le_of_ble_eq_true rfl) ⟨Nat.le_of_ble_eq_true rfl, Nat.le_of_ble_eq_true rfl⟩) (ws' := [(a_t, .inr (3, [.ref a_may, .ref b_voyage, .ref b_luck, .ref b_rank, .ref b_worth])), (a_may, .inl (cI, 6, .inl f_may))]) rfl ?_
  refine ww_if_eq B 24 dX3_lets_4 (by decide) (fun c_4 => ?_) (fun c_4 => ?_)
  · replace h := og_t c_4 h
    refine ww_iconst B dX3_lets_24 (v := 0) (by decide) ?_
    exact ww_zret B hA hQ hr (Or.inl rfl) dX3_lets_25 () [0, 1] rfl (by decide) (og_s h).symm
  · replace h := og_f c_4 h
    refine ww_aload_n B dX3_lets_7 0 rfl ?_
    refine ww_get (ci := 3) (T := TX3) (C := RX3) (N := 5) B iX3 0 rfl rfl 0 (by decide) (by decide +kernel) rfl rfl dX3_lets_8 ?_
    refine ww_iload_n B dX3_lets_11 1 rfl ?_
    obtain ⟨i_12, h⟩ := og_i h
    refine ww_iald B 1 rfl i_12 dX3_lets_12 ?_
    refine ww_iload_n B dX3_lets_13 2 rfl ?_
    obtain ⟨q_14, hq_14, h⟩ := og_b h
    refine ww_ci0 B (k' := 0) (n' := 0) rfl rfl [] [0, 1] (wr := [(a_t, .inr (3, [.ref a_may, .ref b_voyage, .ref b_luck, .ref b_rank, .ref b_worth])), (a_may, .inl (cI, 6, .inl f_may))]) (st := []) rfl rfl (by decide) (rr_SN B (c_X7_hasBit l D cI cZ (f_may (Int32.toNatClampNeg v1)) v2 hq_14) gX3_lets_X7_hasBit_n39 rfl rfl rfl (by decide +kernel) (by decide +kernel) (by decide +kernel) (N := 2) rfl (by decide +kernel) ⟨Nat.le_of_ble_eq_true rfl, Nat.le_of_ble_eq_true rfl⟩ rfl dX3_lets_14 (Nat.le_of_ble_eq_true rfl) ⟨Nat.le_of_ble_eq_true rfl, Nat.le_of_ble_eq_true rfl⟩) (ws' := [(a_t, .inr (3, [.ref a_may, .ref b_voyage, .ref b_luck, .ref b_rank, .ref b_worth])), (a_may, .inl (cI, 6, .inl f_may))]) rfl ?_
    refine ww_if_eq B 24 dX3_lets_17 (by decide) (fun c_17 => ?_) (fun c_17 => ?_)
    · replace h := og_t c_17 h
      refine ww_iconst B dX3_lets_24 (v := 0) (by decide) ?_
      exact ww_zret B hA hQ hr (Or.inl rfl) dX3_lets_25 () [0, 1] rfl (by decide) (og_s h).symm
    · replace h := og_f c_17 h
      refine ww_iconst B dX3_lets_20 (v := 1) (by decide) ?_
      refine ww_goto B 25 dX3_lets_21 (by decide) ?_
      exact ww_zret B hA hQ hr (Or.inr rfl) dX3_lets_25 () [0, 1] rfl (by decide) (og_s h).symm
