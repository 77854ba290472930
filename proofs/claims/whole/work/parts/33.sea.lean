noncomputable def m_X4_allHomes_4b (k4 : Int32 → Int32 → Option Int32) (f_homes : (Nat → Int32)) (v1 : Int32) (v2 : Int32) : Option Int32 := if 5 ≤ v2 then (some v1) else (ogi v2 5 (ogl (v1 + (f_homes (Int32.toNatClampNeg v2))) (fun (v1_17 : Int32) => ogl (v2 + 1) (fun (v2_18 : Int32) => (k4 v1_17 v2_18)))))
noncomputable def m_X4_allHomes_4 (f_homes : (Nat → Int32)) (fuel : Nat) : Int32 → Int32 → Option Int32 := Nat.rec (fun _ _ => none) (fun _ k4 => m_X4_allHomes_4b k4 f_homes) fuel
noncomputable def m_X4_allHomes (f_homes : (Nat → Int32)) : Option Int32 := (m_X4_allHomes_4 f_homes 1000000 0 0)
set_option maxHeartbeats 4000000 in
set_option maxRecDepth 100000 in
theorem c_X4_allHomes (l : Launch) (D : va_G) (cI cZ : ClassId) (a_t a_homes b_nameOf b_hullOf b_turn b_taker : Nat) (f_homes : (Nat → Int32)) (x_t_day : Int32) {res : Int32} (h : m_X4_allHomes f_homes = some res) : CT l yX4_allHomes wsX4_allHomes ({ frames := 0, cells := 0, slots := 0, locals := 0 } : Room) D cI cZ [.ref a_t] [(a_t, .inr (4, [.ref b_nameOf, .ref b_hullOf, .ref a_homes, .ref b_turn, .ref b_taker, .int x_t_day])), (a_homes, .inl (cI, 5, .inl f_homes))] (QI D [(a_t, .inr (4, [.ref b_nameOf, .ref b_hullOf, .ref a_homes, .ref b_turn, .ref b_taker, .int x_t_day])), (a_homes, .inl (cI, 5, .inl f_homes))] (fun (r : Int32) (_ : Unit) => r = res) (fun (u : Unit) => [(a_t, .inr (4, [.ref b_nameOf, .ref b_hullOf, .ref a_homes, .ref b_turn, .ref b_taker, .int x_t_day])), (a_homes, .inl (cI, 5, .inl f_homes))])) 0 0 := by
  have h : ((m_X4_allHomes_4 f_homes 1000000 0 0) : Option Int32) = some res := h
  refine ct_entry (cc := cX4_allHomes) (nl := 3) (ret := (some .int)) (own := RX4) (lv0 := [(0, .ref a_t)]) (by decide) rfl rfl (Nat.le_of_ble_eq_true rfl) rfl ?_
  intro p e s m args below meth c A Q hA hQ hr hnm B
  have iX4 : ∀ w ∈ wsX40, w ∈ wsX4_allHomes := by decide +kernel
  have cut_4 : ∀ (fuel : Nat) (v1 : Int32) (v2 : Int32), m_X4_allHomes_4 f_homes fuel v1 v2 = some res → WW p l e (headSpec wsX4_allHomes ({ frames := 0, cells := 0, slots := 0, locals := 0 } : Room)).room s m args below meth c D A 3 0 0 Q [(a_t, .inr (4, [.ref b_nameOf, .ref b_hullOf, .ref a_homes, .ref b_turn, .ref b_taker, .int x_t_day])), (a_homes, .inl (cI, 5, .inl f_homes))] [(0, .ref a_t), (1, .int v1), (2, .int v2)] [] 4 := by
    intro fuel_4
    induction fuel_4 with
    | zero => intro v1 v2 h; exact og_0 h
    | succ fuel_4 ih_4 =>
      intro v1 v2 h
      replace h : (if 5 ≤ v2 then (some v1) else (ogi v2 5 (ogl (v1 + (f_homes (Int32.toNatClampNeg v2))) (fun (v1_17 : Int32) => ogl (v2 + 1) (fun (v2_18 : Int32) => ((m_X4_allHomes_4 f_homes fuel_4) v1_17 v2_18))))) : Option Int32) = some res := h
      refine ww_iload_n B dX4_allHomes_4 2 rfl ?_
      refine ww_iconst B dX4_allHomes_5 (v := 5) (by decide) ?_
      refine ww_icmp_ge B 24 dX4_allHomes_6 (by decide) (fun c_6 => ?_) (fun c_6 => ?_)
      · replace h := og_t c_6 h
        refine ww_iload_n B dX4_allHomes_24 1 rfl ?_
        exact ww_iret B hA hQ hr dX4_allHomes_25 () [0, 1] rfl (by decide) (og_s h).symm
      · replace h := og_f c_6 h
        refine ww_iload_n B dX4_allHomes_9 1 rfl ?_
        refine ww_aload_n B dX4_allHomes_10 0 rfl ?_
        refine ww_get (ci := 4) (T := TX4) (C := RX4) (N := 6) B iX4 0 rfl rfl 2 (by decide) (by decide +kernel) rfl rfl dX4_allHomes_11 ?_
        refine ww_iload_n B dX4_allHomes_14 2 rfl ?_
        obtain ⟨i_15, h⟩ := og_i h
        refine ww_iald B 1 rfl i_15 dX4_allHomes_15 ?_
        refine ww_iadd B dX4_allHomes_16 ?_
        refine ww_topi (fun v1_17 ev1_17 => ?_)
        replace h := og_l ev1_17 h
        refine ww_istore_n B dX4_allHomes_17 (lv' := [(1, .int v1_17), (0, .ref a_t), (2, .int v2)]) (by decide) rfl ?_
        obtain ⟨v2_18, ev2_18⟩ : ∃ y : Int32, y = (v2 + 1) := ⟨_, rfl⟩
        refine ww_iinc B dX4_allHomes_18 2 rfl (v := v2_18) (by rw [ev2_18]; rfl) (by decide) (lv' := [(2, .int v2_18), (1, .int v1_17), (0, .ref a_t)]) rfl ?_
        replace h := og_l ev2_18 h
        refine ww_goto B 4 dX4_allHomes_21 (by decide) ?_
        refine ww_lsel (lv' := [(0, .ref a_t), (1, .int v1_17), (2, .int v2_18)]) [2, 1, 0] rfl ?_
        exact ih_4 _ _ h
  refine ww_iconst B dX4_allHomes_0 (v := 0) (by decide) ?_
  refine ww_istore_n B dX4_allHomes_1 (lv' := [(1, .int 0), (0, .ref a_t)]) (by decide) rfl ?_
  refine ww_iconst B dX4_allHomes_2 (v := 0) (by decide) ?_
  refine ww_istore_n B dX4_allHomes_3 (lv' := [(2, .int 0), (1, .int 0), (0, .ref a_t)]) (by decide) rfl ?_
  refine ww_lsel (lv' := [(0, .ref a_t), (1, .int 0), (2, .int 0)]) [2, 1, 0] rfl ?_
  exact cut_4 _ _ _ h
noncomputable def m_X4_bearer (f_hullOf : (Nat → Int32)) (f_taker : (Nat → Int32)) (f_turn : (Nat → Int32)) (x_t_day : Int32) (v1 : Int32) : Option Int32 := ogb (m_X7_at 5 f_hullOf v1) (fun q_5 => if q_5 = (-7) then (ogb (m_X7_at 5 f_turn v1) (fun q_20 => if q_20 = x_t_day then (ogb (m_X7_at 5 f_taker v1) (fun q_35 => some q_35)) else (some (-6)))) else (some q_5))
set_option maxHeartbeats 4000000 in
set_option maxRecDepth 100000 in
theorem c_X4_bearer (l : Launch) (D : va_G) (cI cZ : ClassId) (a_t a_hullOf a_taker a_turn b_nameOf b_homes : Nat) (f_hullOf : (Nat → Int32)) (f_taker : (Nat → Int32)) (f_turn : (Nat → Int32)) (x_t_day : Int32) (v1 : Int32) {res : Int32} (h : m_X4_bearer f_hullOf f_taker f_turn x_t_day v1 = some res) : CT l yX4_bearer wsX4_bearer ({ frames := 1, cells := 0, slots := 0, locals := 21 } : Room) D cI cZ [.ref a_t, .int v1] [(a_t, .inr (4, [.ref b_nameOf, .ref a_hullOf, .ref b_homes, .ref a_turn, .ref a_taker, .int x_t_day])), (a_hullOf, .inl (cI, 5, .inl f_hullOf)), (a_taker, .inl (cI, 5, .inl f_taker)), (a_turn, .inl (cI, 5, .inl f_turn))] (QI D [(a_t, .inr (4, [.ref b_nameOf, .ref a_hullOf, .ref b_homes, .ref a_turn, .ref a_taker, .int x_t_day])), (a_hullOf, .inl (cI, 5, .inl f_hullOf)), (a_taker, .inl (cI, 5, .inl f_taker)), (a_turn, .inl (cI, 5, .inl f_turn))] (fun (r : Int32) (_ : Unit) => r = res) (fun (u : Unit) => [(a_t, .inr (4, [.ref b_nameOf, .ref a_hullOf, .ref b_homes, .ref a_turn, .ref a_taker, .int x_t_day])), (a_hullOf, .inl (cI, 5, .inl f_hullOf)), (a_taker, .inl (cI, 5, .inl f_taker)), (a_turn, .inl (cI, 5, .inl f_turn))])) 0 0 := by
  have h : (ogb (m_X7_at 5 f_hullOf v1) (fun q_5 => if q_5 = (-7) then (ogb (m_X7_at 5 f_turn v1) (fun q_20 => if q_20 = x_t_day then (ogb (m_X7_at 5 f_taker v1) (fun q_35 => some q_35)) else (some (-6)))) else (some q_5)) : Option Int32) = some res := h
  refine ct_entry (cc := cX4_bearer) (nl := 3) (ret := (some .int)) (own := RX4) (lv0 := [(0, .ref a_t), (1, .int v1)]) (by decide) rfl rfl (Nat.le_of_ble_eq_true rfl) rfl ?_
  intro p e s m args below meth c A Q hA hQ hr hnm B
  have iX4 : ∀ w ∈ wsX40, w ∈ wsX4_bearer := by decide +kernel
  refine ww_aload_n B dX4_bearer_0 0 rfl ?_
  refine ww_get (ci := 4) (T := TX4) (C := RX4) (N := 6) B iX4 0 rfl rfl 1 (by decide) (by decide +kernel) rfl rfl dX4_bearer_1 ?_
  refine ww_iload_n B dX4_bearer_4 1 rfl ?_
  obtain ⟨q_5, hq_5, h⟩ := og_b h
  refine ww_ci0 B (k' := 0) (n' := 0) rfl rfl [1] [0, 2, 3] (wr := [(a_t, .inr (4, [.ref b_nameOf, .ref a_hullOf, .ref b_homes, .ref a_turn, .ref a_taker, .int x_t_day])), (a_taker, .inl (cI, 5, .inl f_taker)), (a_turn, .inl (cI, 5, .inl f_turn))]) (st := []) rfl rfl (by decide) (rr_SN B (c_X7_at l D cI cZ a_hullOf 5 f_hullOf v1 hq_5) gX4_bearer_X7_at_n43 rfl rfl rfl (by decide +kernel) (by decide +kernel) (by decide +kernel) (N := 2) rfl (by decide +kernel) ⟨Nat.le_of_ble_eq_true rfl, Nat.le_of_ble_eq_true rfl⟩ rfl dX4_bearer_5 (Nat.le_of_ble_eq_true rfl) ⟨Nat.le_of_ble_eq_true rfl, Nat.le_of_ble_eq_true rfl⟩) (ws' := [(a_t, .inr (4, [.ref b_nameOf, .ref a_hullOf, .ref b_homes, .ref a_turn, .ref a_taker, .int x_t_day])), (a_taker, .inl (cI, 5, .inl f_taker)), (a_turn, .inl (cI, 5, .inl f_turn)), (a_hullOf, .inl (cI, 5, .inl f_hullOf))]) rfl ?_
  refine ww_istore_n B dX4_bearer_8 (lv' := [(2, .int q_5), (0, .ref a_t), (1, .int v1)]) (by decide) rfl ?_
  refine ww_iload_n B dX4_bearer_9 0 rfl ?_
  refine ww_bipush B dX4_bearer_10 (v := (-7)) (by decide) ?_
  refine ww_icmp_ne B 44 dX4_bearer_12 (by decide) (fun c_12 => ?_) (fun c_12 => ?_)
  · replace h := og_f c_12 h
    refine ww_iload_n B dX4_bearer_44 0 rfl ?_
    exact ww_iret B hA hQ hr dX4_bearer_45 () [0, 3, 1, 2] rfl (by decide) (og_s h).symm
  · replace h := og_t c_12 h
    refine ww_aload_n B dX4_bearer_15 1 rfl ?_
    refine ww_get (ci := 4) (T := TX4) (C := RX4) (N := 6) B iX4 0 rfl rfl 3 (by decide) (by decide +kernel) rfl rfl dX4_bearer_16 ?_
    refine ww_iload_n B dX4_bearer_19 2 rfl ?_
    obtain ⟨q_20, hq_20, h⟩ := og_b h
    refine ww_ci0 B (k' := 0) (n' := 0) rfl rfl [2] [0, 1, 3] (wr := [(a_t, .inr (4, [.ref b_nameOf, .ref a_hullOf, .ref b_homes, .ref a_turn, .ref a_taker, .int x_t_day])), (a_taker, .inl (cI, 5, .inl f_taker)), (a_hullOf, .inl (cI, 5, .inl f_hullOf))]) (st := []) rfl rfl (by decide) (rr_SN B (c_X7_at l D cI cZ a_turn 5 f_turn v1 hq_20) gX4_bearer_X7_at_n43 rfl rfl rfl (by decide +kernel) (by decide +kernel) (by decide +kernel) (N := 2) rfl (by decide +kernel) ⟨Nat.le_of_ble_eq_true rfl, Nat.le_of_ble_eq_true rfl⟩ rfl dX4_bearer_20 (Nat.le_of_ble_eq_true rfl) ⟨Nat.le_of_ble_eq_true rfl, Nat.le_of_ble_eq_true rfl⟩) (ws' := [(a_t, .inr (4, [.ref b_nameOf, .ref a_hullOf, .ref b_homes, .ref a_turn, .ref a_taker, .int x_t_day])), (a_taker, .inl (cI, 5, .inl f_taker)), (a_hullOf, .inl (cI, 5, .inl f_hullOf)), (a_turn, .inl (cI, 5, .inl f_turn))]) rfl ?_
    refine ww_aload_n B dX4_bearer_23 1 rfl ?_
    refine ww_get (ci := 4) (T := TX4) (C := RX4) (N := 6) B iX4 0 rfl rfl 5 (by decide) (by decide +kernel) rfl rfl dX4_bearer_24 ?_
    refine ww_icmp_ne B 41 dX4_bearer_27 (by decide) (fun c_27 => ?_) (fun c_27 => ?_)
    · replace h := og_f c_27 h
      refine ww_bipush B dX4_bearer_41 (v := (-6)) (by decide) ?_
      exact ww_iret B hA hQ hr dX4_bearer_43 () [0, 2, 1, 3] rfl (by decide) (og_s h).symm
    · replace h := og_t c_27 h
      refine ww_aload_n B dX4_bearer_30 1 rfl ?_
      refine ww_get (ci := 4) (T := TX4) (C := RX4) (N := 6) B iX4 0 rfl rfl 4 (by decide) (by decide +kernel) rfl rfl dX4_bearer_31 ?_
      refine ww_iload_n B dX4_bearer_34 2 rfl ?_
      obtain ⟨q_35, hq_35, h⟩ := og_b h
      refine ww_ci0 B (k' := 0) (n' := 0) rfl rfl [1] [0, 2, 3] (wr := [(a_t, .inr (4, [.ref b_nameOf, .ref a_hullOf, .ref b_homes, .ref a_turn, .ref a_taker, .int x_t_day])), (a_hullOf, .inl (cI, 5, .inl f_hullOf)), (a_turn, .inl (cI, 5, .inl f_turn))]) (st := []) rfl rfl (by decide) (rr_SN B (c_X7_at l D cI cZ a_taker 5 f_taker v1 hq_35) gX4_bearer_X7_at_n43 rfl rfl rfl (by decide +kernel) (by decide +kernel) (by decide +kernel) (N := 2) rfl (by decide +kernel) ⟨Nat.le_of_ble_eq_true rfl, Nat.le_of_ble_eq_true rfl⟩ rfl dX4_bearer_35 (Nat.le_of_ble_eq_true rfl) ⟨Nat.le_of_ble_eq_true rfl, Nat.le_of_ble_eq_true rfl⟩) (ws' := [(a_t, .inr (4, [.ref b_nameOf, .ref a_hullOf, .ref b_homes, .ref a_turn, .ref a_taker, .int x_t_day])), (a_hullOf, .inl (cI, 5, .inl f_hullOf)), (a_turn, .inl (cI, 5, .inl f_turn)), (a_taker, .inl (cI, 5, .inl f_taker))]) rfl ?_
      refine ww_goto B 43 dX4_bearer_38 (by decide) ?_
      exact ww_iret B hA hQ hr dX4_bearer_43 () [0, 1, 3, 2] rfl (by decide) (og_s h).symm
noncomputable def m_X4_calm (f_homes : (Nat → Int32)) (f_hullOf : (Nat → Int32)) (f_nameOf : (Nat → Int32)) (f_taker : (Nat → Int32)) (f_turn : (Nat → Int32)) (x_t_day : Int32) : Option ((Nat → Int32) × (Nat → Int32) × (Nat → Int32) × (Nat → Int32) × (Nat → Int32) × Int32) := ogb (m_X7_fill 6 f_nameOf (-6)) (fun q_6 => ogb (m_X7_fill 5 f_hullOf (-6)) (fun q_15 => ogb (m_X7_fill 5 f_homes 0) (fun q_23 => ogb (m_X7_fill 5 f_turn 0) (fun q_31 => ogb (m_X7_fill 5 f_taker (-6)) (fun q_40 => some (q_23, q_15, q_6, q_40, q_31, 0))))))
set_option maxHeartbeats 4000000 in
set_option maxRecDepth 100000 in
theorem c_X4_calm (l : Launch) (D : va_G) (cI cZ : ClassId) (a_t a_homes a_hullOf a_nameOf a_taker a_turn : Nat) (f_homes : (Nat → Int32)) (f_hullOf : (Nat → Int32)) (f_nameOf : (Nat → Int32)) (f_taker : (Nat → Int32)) (f_turn : (Nat → Int32)) (x_t_day : Int32) {res : ((Nat → Int32) × (Nat → Int32) × (Nat → Int32) × (Nat → Int32) × (Nat → Int32) × Int32)} (h : m_X4_calm f_homes f_hullOf f_nameOf f_taker f_turn x_t_day = some res) : CT l yX4_calm wsX4_calm ({ frames := 1, cells := 0, slots := 0, locals := 22 } : Room) D cI cZ [.ref a_t] [(a_t, .inr (4, [.ref a_nameOf, .ref a_hullOf, .ref a_homes, .ref a_turn, .ref a_taker, .int x_t_day])), (a_homes, .inl (cI, 5, .inl f_homes)), (a_hullOf, .inl (cI, 5, .inl f_hullOf)), (a_nameOf, .inl (cI, 6, .inl f_nameOf)), (a_taker, .inl (cI, 5, .inl f_taker)), (a_turn, .inl (cI, 5, .inl f_turn))] (QV D [(a_t, .inr (4, [.ref a_nameOf, .ref a_hullOf, .ref a_homes, .ref a_turn, .ref a_taker, .int x_t_day])), (a_homes, .inl (cI, 5, .inl f_homes)), (a_hullOf, .inl (cI, 5, .inl f_hullOf)), (a_nameOf, .inl (cI, 6, .inl f_nameOf)), (a_taker, .inl (cI, 5, .inl f_taker)), (a_turn, .inl (cI, 5, .inl f_turn))] (fun (u : (Nat → Int32) × (Nat → Int32) × (Nat → Int32) × (Nat → Int32) × (Nat → Int32) × Int32) => u = res) (fun (u : (Nat → Int32) × (Nat → Int32) × (Nat → Int32) × (Nat → Int32) × (Nat → Int32) × Int32) => [(a_t, .inr (4, [.ref a_nameOf, .ref a_hullOf, .ref a_homes, .ref a_turn, .ref a_taker, .int u.2.2.2.2.2])), (a_homes, .inl (cI, 5, .inl u.1)), (a_hullOf, .inl (cI, 5, .inl u.2.1)), (a_nameOf, .inl (cI, 6, .inl u.2.2.1)), (a_taker, .inl (cI, 5, .inl u.2.2.2.1)), (a_turn, .inl (cI, 5, .inl u.2.2.2.2.1))])) 0 0 := by
  have h : (ogb (m_X7_fill 6 f_nameOf (-6)) (fun q_6 => ogb (m_X7_fill 5 f_hullOf (-6)) (fun q_15 => ogb (m_X7_fill 5 f_homes 0) (fun q_23 => ogb (m_X7_fill 5 f_turn 0) (fun q_31 => ogb (m_X7_fill 5 f_taker (-6)) (fun q_40 => some (q_23, q_15, q_6, q_40, q_31, 0)))))) : Option ((Nat → Int32) × (Nat → Int32) × (Nat → Int32) × (Nat → Int32) × (Nat → Int32) × Int32)) = some res := h
  refine ct_entry (cc := cX4_calm) (nl := 1) (ret := none) (own := RX4) (lv0 := [(0, .ref a_t)]) (by decide) rfl rfl (Nat.le_of_ble_eq_true rfl) rfl ?_
  intro p e s m args below meth c A Q hA hQ hr hnm B
  have iX4 : ∀ w ∈ wsX40, w ∈ wsX4_calm := by decide +kernel
  refine ww_aload_n B dX4_calm_0 0 rfl ?_
  refine ww_get (ci := 4) (T := TX4) (C := RX4) (N := 6) B iX4 0 rfl rfl 0 (by decide) (by decide +kernel) rfl rfl dX4_calm_1 ?_
  refine ww_bipush B dX4_calm_4 (v := (-6)) (by decide) ?_
  obtain ⟨q_6, hq_6, h⟩ := og_b h
  refine ww_cvM B (k' := 0) (n' := 0) rfl rfl [3] [0, 1, 2, 4, 5] (wr := [(a_t, .inr (4, [.ref a_nameOf, .ref a_hullOf, .ref a_homes, .ref a_turn, .ref a_taker, .int x_t_day])), (a_homes, .inl (cI, 5, .inl f_homes)), (a_hullOf, .inl (cI, 5, .inl f_hullOf)), (a_taker, .inl (cI, 5, .inl f_taker)), (a_turn, .inl (cI, 5, .inl f_turn))]) (st := []) rfl rfl (by decide) (rr_SN B (c_X7_fill l D cI cZ a_nameOf 6 f_nameOf (-6) hq_6) gX4_calm_X7_fill_n27 rfl rfl rfl (by decide +kernel) (by decide +kernel) (by decide +kernel) (N := 2) rfl (by decide +kernel) ⟨Nat.le_of_ble_eq_true rfl, Nat.le_of_ble_eq_true rfl⟩ rfl dX4_calm_6 (Nat.le_of_ble_eq_true rfl) ⟨Nat.le_of_ble_eq_true rfl, Nat.le_of_ble_eq_true rfl⟩) (ws' := [(a_t, .inr (4, [.ref a_nameOf, .ref a_hullOf, .ref a_homes, .ref a_turn, .ref a_taker, .int x_t_day])), (a_homes, .inl (cI, 5, .inl f_homes)), (a_hullOf, .inl (cI, 5, .inl f_hullOf)), (a_taker, .inl (cI, 5, .inl f_taker)), (a_turn, .inl (cI, 5, .inl f_turn)), (a_nameOf, .inl (cI, 6, .inl q_6))]) rfl ?_
  refine ww_aload_n B dX4_calm_9 0 rfl ?_
  refine ww_get (ci := 4) (T := TX4) (C := RX4) (N := 6) B iX4 0 rfl rfl 1 (by decide) (by decide +kernel) rfl rfl dX4_calm_10 ?_
  refine ww_bipush B dX4_calm_13 (v := (-6)) (by decide) ?_
  obtain ⟨q_15, hq_15, h⟩ := og_b h
  refine ww_cvM B (k' := 0) (n' := 0) rfl rfl [2] [0, 1, 3, 4, 5] (wr := [(a_t, .inr (4, [.ref a_nameOf, .ref a_hullOf, .ref a_homes, .ref a_turn, .ref a_taker, .int x_t_day])), (a_homes, .inl (cI, 5, .inl f_homes)), (a_taker, .inl (cI, 5, .inl f_taker)), (a_turn, .inl (cI, 5, .inl f_turn)), (a_nameOf, .inl (cI, 6, .inl q_6))]) (st := []) rfl rfl (by decide) (rr_SN B (c_X7_fill l D cI cZ a_hullOf 5 f_hullOf (-6) hq_15) gX4_calm_X7_fill_n27 rfl rfl rfl (by decide +kernel) (by decide +kernel) (by decide +kernel) (N := 2) rfl (by decide +kernel) ⟨Nat.le_of_ble_eq_true rfl, Nat.le_of_ble_eq_true rfl⟩ rfl dX4_calm_15 (Nat.le_of_ble_eq_true rfl) ⟨Nat.le_of_ble_eq_true rfl, Nat.le_of_ble_eq_true rfl⟩) (ws' := [(a_t, .inr (4, [.ref a_nameOf, .ref a_hullOf, .ref a_homes, .ref a_turn, .ref a_taker, .int x_t_day])), (a_homes, .inl (cI, 5, .inl f_homes)), (a_taker, .inl (cI, 5, .inl f_taker)), (a_turn, .inl (cI, 5, .inl f_turn)), (a_nameOf, .inl (cI, 6, .inl q_6)), (a_hullOf, .inl (cI, 5, .inl q_15))]) rfl ?_
  refine ww_aload_n B dX4_calm_18 0 rfl ?_
  refine ww_get (ci := 4) (T := TX4) (C := RX4) (N := 6) B iX4 0 rfl rfl 2 (by decide) (by decide +kernel) rfl rfl dX4_calm_19 ?_
  refine ww_iconst B dX4_calm_22 (v := 0) (by decide) ?_
  obtain ⟨q_23, hq_23, h⟩ := og_b h
  refine ww_cvM B (k' := 0) (n' := 0) rfl rfl [1] [0, 2, 3, 4, 5] (wr := [(a_t, .inr (4, [.ref a_nameOf, .ref a_hullOf, .ref a_homes, .ref a_turn, .ref a_taker, .int x_t_day])), (a_taker, .inl (cI, 5, .inl f_taker)), (a_turn, .inl (cI, 5, .inl f_turn)), (a_nameOf, .inl (cI, 6, .inl q_6)), (a_hullOf, .inl (cI, 5, .inl q_15))]) (st := []) rfl rfl (by decide) (rr_SN B (c_X7_fill l D cI cZ a_homes 5 f_homes 0 hq_23) gX4_calm_X7_fill_n27 rfl rfl rfl (by decide +kernel) (by decide +kernel) (by decide +kernel) (N := 2) rfl (by decide +kernel) ⟨Nat.le_of_ble_eq_true rfl, Nat.le_of_ble_eq_true rfl⟩ rfl dX4_calm_23 (Nat.le_of_ble_eq_true rfl) ⟨Nat.le_of_ble_eq_true rfl, Nat.le_of_ble_eq_true rfl⟩) (ws' := [(a_t, .inr (4, [.ref a_nameOf, .ref a_hullOf, .ref a_homes, .ref a_turn, .ref a_taker, .int x_t_day])), (a_taker, .inl (cI, 5, .inl f_taker)), (a_turn, .inl (cI, 5, .inl f_turn)), (a_nameOf, .inl (cI, 6, .inl q_6)), (a_hullOf, .inl (cI, 5, .inl q_15)), (a_homes, .inl (cI, 5, .inl q_23))]) rfl ?_
  refine ww_aload_n B dX4_calm_26 0 rfl ?_
  refine ww_get (ci := 4) (T := TX4) (C := RX4) (N := 6) B iX4 0 rfl rfl 3 (by decide) (by decide +kernel) rfl rfl dX4_calm_27 ?_
  refine ww_iconst B dX4_calm_30 (v := 0) (by decide) ?_
  obtain ⟨q_31, hq_31, h⟩ := og_b h
  refine ww_cvM B (k' := 0) (n' := 0) rfl rfl [2] [0, 1, 3, 4, 5] (wr := [(a_t, .inr (4, [.ref a_nameOf, .ref a_hullOf, .ref a_homes, .ref a_turn, .ref a_taker, .int x_t_day])), (a_taker, .inl (cI, 5, .inl f_taker)), (a_nameOf, .inl (cI, 6, .inl q_6)), (a_hullOf, .inl (cI, 5, .inl q_15)), (a_homes, .inl (cI, 5, .inl q_23))]) (st := []) rfl rfl (by decide) (rr_SN B (c_X7_fill l D cI cZ a_turn 5 f_turn 0 hq_31) gX4_calm_X7_fill_n27 rfl rfl rfl (by decide +kernel) (by decide +kernel) (by decide +kernel) (N := 2) rfl (by decide +kernel) ⟨Nat.le_of_ble_eq_true rfl, Nat.le_of_ble_eq_true rfl⟩ rfl dX4_calm_31 (Nat.le_of_ble_eq_true rfl) ⟨Nat.le_of_ble_eq_true rfl, Nat.le_of_ble_eq_true rfl⟩) (ws' := [(a_t, .inr (4, [.ref a_nameOf, .ref a_hullOf, .ref a_homes, .ref a_turn, .ref a_taker, .int x_t_day])), (a_taker, .inl (cI, 5, .inl f_taker)), (a_nameOf, .inl (cI, 6, .inl q_6)), (a_hullOf, .inl (cI, 5, .inl q_15)), (a_homes, .inl (cI, 5, .inl q_23)), (a_turn, .inl (cI, 5, .inl q_31))]) rfl ?_
  refine ww_aload_n B dX4_calm_34 0 rfl ?_
  refine ww_get (ci := 4) (T := TX4) (C := RX4) (N := 6) B iX4 0 rfl rfl 4 (by decide) (by decide +kernel) rfl rfl dX4_calm_35 ?_
  refine ww_bipush B dX4_calm_38 (v := (-6)) (by decide) ?_
  obtain ⟨q_40, hq_40, h⟩ := og_b h
  refine ww_cvM B (k' := 0) (n' := 0) rfl rfl [1] [0, 2, 3, 4, 5] (wr := [(a_t, .inr (4, [.ref a_nameOf, .ref a_hullOf, .ref a_homes, .ref a_turn, .ref a_taker, .int x_t_day])), (a_nameOf, .inl (cI, 6, .inl q_6)), (a_hullOf, .inl (cI, 5, .inl q_15)), (a_homes, .inl (cI, 5, .inl q_23)), (a_turn, .inl (cI, 5, .inl q_31))]) (st := []) rfl rfl (by decide) (rr_SN B (c_X7_fill l D cI cZ a_taker 5 f_taker (-6) hq_40) gX4_calm_X7_fill_n27 rfl rfl rfl (by decide +kernel) (by decide +kernel) (by decide +kernel) (N := 2) rfl (by decide +kernel) ⟨Nat.le_of_ble_eq_true rfl, Nat.le_of_ble_eq_true rfl⟩ rfl dX4_calm_40 (Nat.le_of_ble_eq_true rfl) ⟨Nat.le_of_ble_eq_true rfl, Nat.le_of_ble_eq_true rfl⟩) (ws' := [(a_t, .inr (4, [.ref a_nameOf, .ref a_hullOf, .ref a_homes, .ref a_turn, .ref a_taker, .int x_t_day])), (a_nameOf, .inl (cI, 6, .inl q_6)), (a_hullOf, .inl (cI, 5, .inl q_15)), (a_homes, .inl (cI, 5, .inl q_23)), (a_turn, .inl (cI, 5, .inl q_31)), (a_taker, .inl (cI, 5, .inl q_40))]) rfl ?_
  refine ww_aload_n B dX4_calm_43 0 rfl ?_
  refine ww_iconst B dX4_calm_44 (v := 0) (by decide) ?_
  refine ww_put (ci := 4) (T := TX4) (C := RX4) (N := 6) (ty := .int) B iX4 tyX4 tyX4_ok nmX4 0 rfl rfl 5 (by decide) (by decide +kernel) rfl rfl (by decide +kernel) rfl rfl (Nat.le_of_ble_eq_true rfl) dX4_calm_45 (ws' := [(a_t, .inr (4, [.ref a_nameOf, .ref a_hullOf, .ref a_homes, .ref a_turn, .ref a_taker, .int 0])), (a_nameOf, .inl (cI, 6, .inl q_6)), (a_hullOf, .inl (cI, 5, .inl q_15)), (a_homes, .inl (cI, 5, .inl q_23)), (a_turn, .inl (cI, 5, .inl q_31)), (a_taker, .inl (cI, 5, .inl q_40))]) rfl ?_
  exact ww_vret B hA hQ hr dX4_calm_48 (q_23, q_15, q_6, q_40, q_31, 0) [0, 3, 2, 1, 5, 4] rfl (by decide) (og_s h).symm
noncomputable def m_X4_dawn_67 (k7 : Int32 → Int32 → (Nat → Int32) → (Nat → Int32) → (Nat → Int32) → Int32 → Option ((Nat → Int32) × (Nat → Int32) × (Nat → Int32) × Int32)) (f_turn : (Nat → Int32)) (v1 : Int32) (v2 : Int32) (f_homes : (Nat → Int32)) (f_hullOf : (Nat → Int32)) (f_nameOf : (Nat → Int32)) (x_t_day : Int32) : Option ((Nat → Int32) × (Nat → Int32) × (Nat → Int32) × Int32) := ogl (v2 + 1) (fun (v2_67 : Int32) => (k7 v1 v2_67 f_homes f_hullOf f_nameOf x_t_day))
noncomputable def m_X4_dawn_7b (k7 : Int32 → Int32 → (Nat → Int32) → (Nat → Int32) → (Nat → Int32) → Int32 → Option ((Nat → Int32) × (Nat → Int32) × (Nat → Int32) × Int32)) (f_turn : (Nat → Int32)) (v1 : Int32) (v2 : Int32) (f_homes : (Nat → Int32)) (f_hullOf : (Nat → Int32)) (f_nameOf : (Nat → Int32)) (x_t_day : Int32) : Option ((Nat → Int32) × (Nat → Int32) × (Nat → Int32) × Int32) := if 5 ≤ v2 then (some (f_homes, f_hullOf, f_nameOf, x_t_day)) else (ogi v2 5 (ogb (m_X7_isHull (f_hullOf (Int32.toNatClampNeg v2))) (fun q_18 => if q_18 = 0 then ((m_X4_dawn_67 k7 f_turn v1 v2 f_homes f_hullOf f_nameOf x_t_day)) else (ogi v2 5 (if v1 < (f_turn (Int32.toNatClampNeg v2)) then ((m_X4_dawn_67 k7 f_turn v1 v2 f_homes f_hullOf f_nameOf x_t_day)) else (ogi v2 5 (ogb (m_X7_put 6 f_nameOf (f_hullOf (Int32.toNatClampNeg v2)) (-6)) (fun q_46 => ogi v2 5 (ogi v2 5 (ogi v2 5 ((m_X4_dawn_67 k7 f_turn v1 v2 (upd f_homes (Int32.toNatClampNeg v2) ((f_homes (Int32.toNatClampNeg v2)) + 1)) (upd f_hullOf (Int32.toNatClampNeg v2) (-6)) q_46 x_t_day))))))))))))
noncomputable def m_X4_dawn_7 (f_turn : (Nat → Int32)) (fuel : Nat) : Int32 → Int32 → (Nat → Int32) → (Nat → Int32) → (Nat → Int32) → Int32 → Option ((Nat → Int32) × (Nat → Int32) × (Nat → Int32) × Int32) := Nat.rec (fun _ _ _ _ _ _ => none) (fun _ k7 => m_X4_dawn_7b k7 f_turn) fuel
noncomputable def m_X4_dawn (f_turn : (Nat → Int32)) (f_homes : (Nat → Int32)) (f_hullOf : (Nat → Int32)) (f_nameOf : (Nat → Int32)) (x_t_day : Int32) (v1 : Int32) : Option ((Nat → Int32) × (Nat → Int32) × (Nat → Int32) × Int32) := (m_X4_dawn_7 f_turn 1000000 v1 0 f_homes f_hullOf f_nameOf v1)
set_option maxHeartbeats 4000000 in
set_option maxRecDepth 100000 in
theorem c_X4_dawn (l : Launch) (D : va_G) (cI cZ : ClassId) (a_t a_homes a_hullOf a_nameOf a_turn b_taker : Nat) (f_homes : (Nat → Int32)) (f_hullOf : (Nat → Int32)) (f_nameOf : (Nat → Int32)) (f_turn : (Nat → Int32)) (x_t_day : Int32) (v1 : Int32) {res : ((Nat → Int32) × (Nat → Int32) × (Nat → Int32) × Int32)} (h : m_X4_dawn f_turn f_homes f_hullOf f_nameOf x_t_day v1 = some res) : CT l yX4_dawn wsX4_dawn ({ frames := 1, cells := 0, slots := 0, locals := 22 } : Room) D cI cZ [.ref a_t, .int v1] [(a_t, .inr (4, [.ref a_nameOf, .ref a_hullOf, .ref a_homes, .ref a_turn, .ref b_taker, .int x_t_day])), (a_homes, .inl (cI, 5, .inl f_homes)), (a_hullOf, .inl (cI, 5, .inl f_hullOf)), (a_nameOf, .inl (cI, 6, .inl f_nameOf)), (a_turn, .inl (cI, 5, .inl f_turn))] (QV D [(a_t, .inr (4, [.ref a_nameOf, .ref a_hullOf, .ref a_homes, .ref a_turn, .ref b_taker, .int x_t_day])), (a_homes, .inl (cI, 5, .inl f_homes)), (a_hullOf, .inl (cI, 5, .inl f_hullOf)), (a_nameOf, .inl (cI, 6, .inl f_nameOf)), (a_turn, .inl (cI, 5, .inl f_turn))] (fun (u : (Nat → Int32) × (Nat → Int32) × (Nat → Int32) × Int32) => u = res) (fun (u : (Nat → Int32) × (Nat → Int32) × (Nat → Int32) × Int32) => [(a_t, .inr (4, [.ref a_nameOf, .ref a_hullOf, .ref a_homes, .ref a_turn, .ref b_taker, .int u.2.2.2])), (a_homes, .inl (cI, 5, .inl u.1)), (a_hullOf, .inl (cI, 5, .inl u.2.1)), (a_nameOf, .inl (cI, 6, .inl u.2.2.1)), (a_turn, .inl (cI, 5, .inl f_turn))])) 0 0 := by
  have h : ((m_X4_dawn_7 f_turn 1000000 v1 0 f_homes f_hullOf f_nameOf v1) : Option ((Nat → Int32) × (Nat → Int32) × (Nat → Int32) × Int32)) = some res := h
  refine ct_entry (cc := cX4_dawn) (nl := 3) (ret := none) (own := RX4) (lv0 := [(0, .ref a_t), (1, .int v1)]) (by decide) rfl rfl (Nat.le_of_ble_eq_true rfl) rfl ?_
  intro p e s m args below meth c A Q hA hQ hr hnm B
  have iX4 : ∀ w ∈ wsX40, w ∈ wsX4_dawn := by decide +kernel
  have cut_7 : ∀ (fuel : Nat) (v1 : Int32) (v2 : Int32) (f_homes : (Nat → Int32)) (f_hullOf : (Nat → Int32)) (f_nameOf : (Nat → Int32)) (x_t_day : Int32), m_X4_dawn_7 f_turn fuel v1 v2 f_homes f_hullOf f_nameOf x_t_day = some res → WW p l e (headSpec wsX4_dawn ({ frames := 1, cells := 0, slots := 0, locals := 22 } : Room)).room s m args below meth c D A 3 0 0 Q [(a_t, .inr (4, [.ref a_nameOf, .ref a_hullOf, .ref a_homes, .ref a_turn, .ref b_taker, .int x_t_day])), (a_homes, .inl (cI, 5, .inl f_homes)), (a_hullOf, .inl (cI, 5, .inl f_hullOf)), (a_nameOf, .inl (cI, 6, .inl f_nameOf)), (a_turn, .inl (cI, 5, .inl f_turn))] [(0, .ref a_t), (1, .int v1), (2, .int v2)] [] 7 := by
    intro fuel_7
    induction fuel_7 with
    | zero => intro v1 v2 f_homes f_hullOf f_nameOf x_t_day h; exact og_0 h
    | succ fuel_7 ih_7 =>
      have cut_67 : ∀ (v1 : Int32) (v2 : Int32) (f_homes : (Nat → Int32)) (f_hullOf : (Nat → Int32)) (f_nameOf : (Nat → Int32)) (x_t_day : Int32), m_X4_dawn_67 (m_X4_dawn_7 f_turn fuel_7) f_turn v1 v2 f_homes f_hullOf f_nameOf x_t_day = some res → WW p l e (headSpec wsX4_dawn ({ frames := 1, cells := 0, slots := 0, locals := 22 } : Room)).room s m args below meth c D A 3 0 0 Q [(a_t, .inr (4, [.ref a_nameOf, .ref a_hullOf, .ref a_homes, .ref a_turn, .ref b_taker, .int x_t_day])), (a_homes, .inl (cI, 5, .inl f_homes)), (a_hullOf, .inl (cI, 5, .inl f_hullOf)), (a_nameOf, .inl (cI, 6, .inl f_nameOf)), (a_turn, .inl (cI, 5, .inl f_turn))] [(0, .ref a_t), (1, .int v1), (2, .int v2)] [] 67 := by
        intro v1 v2 f_homes f_hullOf f_nameOf x_t_day h
        replace h : (ogl (v2 + 1) (fun (v2_67 : Int32) => ((m_X4_dawn_7 f_turn fuel_7) v1 v2_67 f_homes f_hullOf f_nameOf x_t_day)) : Option ((Nat → Int32) × (Nat → Int32) × (Nat → Int32) × Int32)) = some res := h
        obtain ⟨v2_67, ev2_67⟩ : ∃ y : Int32, y = (v2 + 1) := ⟨_, rfl⟩
        refine ww_iinc B dX4_dawn_67 2 rfl (v := v2_67) (by rw [ev2_67]; rfl) (by decide) (lv' := [(2, .int v2_67), (0, .ref a_t), (1, .int v1)]) rfl ?_
        replace h := og_l ev2_67 h
        refine ww_goto B 7 dX4_dawn_70 (by decide) ?_
        refine ww_lsel (lv' := [(0, .ref a_t), (1, .int v1), (2, .int v2_67)]) [1, 2, 0] rfl ?_
        exact ih_7 _ _ _ _ _ _ h
      intro v1 v2 f_homes f_hullOf f_nameOf x_t_day h
      replace h : (if 5 ≤ v2 then (some (f_homes, f_hullOf, f_nameOf, x_t_day)) else (ogi v2 5 (ogb (m_X7_isHull (f_hullOf (Int32.toNatClampNeg v2))) (fun q_18 => if q_18 = 0 then ((m_X4_dawn_67 (m_X4_dawn_7 f_turn fuel_7) f_turn v1 v2 f_homes f_hullOf f_nameOf x_t_day)) else (ogi v2 5 (if v1 < (f_turn (Int32.toNatClampNeg v2)) then ((m_X4_dawn_67 (m_X4_dawn_7 f_turn fuel_7) f_turn v1 v2 f_homes f_hullOf f_nameOf x_t_day)) else (ogi v2 5 (ogb (m_X7_put 6 f_nameOf (f_hullOf (Int32.toNatClampNeg v2)) (-6)) (fun q_46 => ogi v2 5 (ogi v2 5 (ogi v2 5 ((m_X4_dawn_67 (m_X4_dawn_7 f_turn fuel_7) f_turn v1 v2 (upd f_homes (Int32.toNatClampNeg v2) ((f_homes (Int32.toNatClampNeg v2)) + 1)) (upd f_hullOf (Int32.toNatClampNeg v2) (-6)) q_46 x_t_day)))))))))))) : Option ((Nat → Int32) × (Nat → Int32) × (Nat → Int32) × Int32)) = some res := h
      refine ww_iload_n B dX4_dawn_7 2 rfl ?_
      refine ww_iconst B dX4_dawn_8 (v := 5) (by decide) ?_
      refine ww_icmp_ge B 73 dX4_dawn_9 (by decide) (fun c_9 => ?_) (fun c_9 => ?_)
      · replace h := og_t c_9 h
        exact ww_vret B hA hQ hr dX4_dawn_73 (f_homes, f_hullOf, f_nameOf, x_t_day) [0, 1, 2, 3, 4] rfl (by decide) (og_s h).symm
      · replace h := og_f c_9 h
        refine ww_aload_n B dX4_dawn_12 0 rfl ?_
        refine ww_get (ci := 4) (T := TX4) (C := RX4) (N := 6) B iX4 0 rfl rfl 1 (by decide) (by decide +kernel) rfl rfl dX4_dawn_13 ?_
        refine ww_iload_n B dX4_dawn_16 2 rfl ?_
        obtain ⟨i_17, h⟩ := og_i h
        refine ww_iald B 2 rfl i_17 dX4_dawn_17 ?_
        obtain ⟨q_18, hq_18, h⟩ := og_b h
        refine ww_ci0 B (k' := 0) (n' := 0) rfl rfl [] [0, 1, 2, 3, 4] (wr := [(a_t, .inr (4, [.ref a_nameOf, .ref a_hullOf, .ref a_homes, .ref a_turn, .ref b_taker, .int x_t_day])), (a_homes, .inl (cI, 5, .inl f_homes)), (a_hullOf, .inl (cI, 5, .inl f_hullOf)), (a_nameOf, .inl (cI, 6, .inl f_nameOf)), (a_turn, .inl (cI, 5, .inl f_turn))]) (st := []) rfl rfl (by decide) (rr_SN B (c_X7_isHull l D cI cZ (f_hullOf (Int32.toNatClampNeg v2)) hq_18) gX4_dawn_X7_isHull_n35 rfl rfl rfl (by decide +kernel) (by decide +kernel) (by decide +kernel) (N := 1) rfl (by decide +kernel) ⟨Nat.le_of_ble_eq_true rfl, Nat.le_of_ble_eq_true rfl⟩ rfl dX4_dawn_18 (Nat.le_of_ble_eq_true rfl) ⟨Nat.le_of_ble_eq_true rfl, Nat.le_of_ble_eq_true rfl⟩) (ws' := [(a_t, .inr (4, [.ref a_nameOf, .ref a_hullOf, .ref a_homes, .ref a_turn, .ref b_taker, .int x_t_day])), (a_homes, .inl (cI, 5, .inl f_homes)), (a_hullOf, .inl (cI, 5, .inl f_hullOf)), (a_nameOf, .inl (cI, 6, .inl f_nameOf)), (a_turn, .inl (cI, 5, .inl f_turn))]) rfl ?_
        refine ww_if_eq B 67 dX4_dawn_21 (by decide) (fun c_21 => ?_) (fun c_21 => ?_)
        · replace h := og_t c_21 h
          exact cut_67 _ _ _ _ _ _ h
        · replace h := og_f c_21 h
          refine ww_aload_n B dX4_dawn_24 0 rfl ?_
          refine ww_get (ci := 4) (T := TX4) (C := RX4) (N := 6) B iX4 0 rfl rfl 3 (by decide) (by decide +kernel) rfl rfl dX4_dawn_25 ?_
          refine ww_iload_n B dX4_dawn_28 2 rfl ?_
          obtain ⟨i_29, h⟩ := og_i h
          refine ww_iald B 4 rfl i_29 dX4_dawn_29 ?_
          refine ww_iload_n B dX4_dawn_30 1 rfl ?_
          refine ww_icmp_gt B 67 dX4_dawn_31 (by decide) (fun c_31 => ?_) (fun c_31 => ?_)
          · replace h := og_t c_31 h
            exact cut_67 _ _ _ _ _ _ h
          · replace h := og_f c_31 h
            refine ww_aload_n B dX4_dawn_34 0 rfl ?_
            refine ww_get (ci := 4) (T := TX4) (C := RX4) (N := 6) B iX4 0 rfl rfl 0 (by decide) (by decide +kernel) rfl rfl dX4_dawn_35 ?_
            refine ww_aload_n B dX4_dawn_38 0 rfl ?_
            refine ww_get (ci := 4) (T := TX4) (C := RX4) (N := 6) B iX4 0 rfl rfl 1 (by decide) (by decide +kernel) rfl rfl dX4_dawn_39 ?_
            refine ww_iload_n B dX4_dawn_42 2 rfl ?_
            obtain ⟨i_43, h⟩ := og_i h
            refine ww_iald B 2 rfl i_43 dX4_dawn_43 ?_
            refine ww_bipush B dX4_dawn_44 (v := (-6)) (by decide) ?_
            obtain ⟨q_46, hq_46, h⟩ := og_b h
            refine ww_cvM B (k' := 0) (n' := 0) rfl rfl [3] [0, 1, 2, 4] (wr := [(a_t, .inr (4, [.ref a_nameOf, .ref a_hullOf, .ref a_homes, .ref a_turn, .ref b_taker, .int x_t_day])), (a_homes, .inl (cI, 5, .inl f_homes)), (a_hullOf, .inl (cI, 5, .inl f_hullOf)), (a_turn, .inl (cI, 5, .inl f_turn))]) (st := []) rfl rfl (by decide) (rr_SN B (c_X7_put l D cI cZ a_nameOf 6 f_nameOf (f_hullOf (Int32.toNatClampNeg v2)) (-6) hq_46) gX4_dawn_X7_put_n39 rfl rfl rfl (by decide +kernel) (by decide +kernel) (by decide +kernel) (N := 3) rfl (by decide +kernel) ⟨Nat.le_of_ble_eq_true rfl, Nat.le_of_ble_eq_true rfl⟩ rfl dX4_dawn_46 (Nat.le_of_ble_eq_true rfl) ⟨Nat.le_of_ble_eq_true rfl, Nat.le_of_ble_eq_true rfl⟩) (ws' := [(a_t, .inr (4, [.ref a_nameOf, .ref a_hullOf, .ref a_homes, .ref a_turn, .ref b_taker, .int x_t_day])), (a_homes, .inl (cI, 5, .inl f_homes)), (a_hullOf, .inl (cI, 5, .inl f_hullOf)), (a_turn, .inl (cI, 5, .inl f_turn)), (a_nameOf, .inl (cI, 6, .inl q_46))]) rfl ?_
            refine ww_aload_n B dX4_dawn_49 0 rfl ?_
            refine ww_get (ci := 4) (T := TX4) (C := RX4) (N := 6) B iX4 0 rfl rfl 1 (by decide) (by decide +kernel) rfl rfl dX4_dawn_50 ?_
            refine ww_iload_n B dX4_dawn_53 2 rfl ?_
            refine ww_bipush B dX4_dawn_54 (v := (-6)) (by decide) ?_
            obtain ⟨i_56, h⟩ := og_i h
            refine ww_iast B 2 rfl i_56 dX4_dawn_56 (ws' := [(a_t, .inr (4, [.ref a_nameOf, .ref a_hullOf, .ref a_homes, .ref a_turn, .ref b_taker, .int x_t_day])), (a_homes, .inl (cI, 5, .inl f_homes)), (a_hullOf, .inl (cI, 5, .inl (upd f_hullOf (Int32.toNatClampNeg v2) (-6)))), (a_turn, .inl (cI, 5, .inl f_turn)), (a_nameOf, .inl (cI, 6, .inl q_46))]) rfl ?_
            refine ww_aload_n B dX4_dawn_57 0 rfl ?_
            refine ww_get (ci := 4) (T := TX4) (C := RX4) (N := 6) B iX4 0 rfl rfl 2 (by decide) (by decide +kernel) rfl rfl dX4_dawn_58 ?_
            refine ww_iload_n B dX4_dawn_61 2 rfl ?_
            refine ww_dup2 B dX4_dawn_62 rfl rfl ?_
            obtain ⟨i_63, h⟩ := og_i h
            refine ww_iald B 1 rfl i_63 dX4_dawn_63 ?_
            refine ww_iconst B dX4_dawn_64 (v := 1) (by decide) ?_
            refine ww_iadd B dX4_dawn_65 ?_
            obtain ⟨i_66, h⟩ := og_i h
            refine ww_iast B 1 rfl i_66 dX4_dawn_66 (ws' := [(a_t, .inr (4, [.ref a_nameOf, .ref a_hullOf, .ref a_homes, .ref a_turn, .ref b_taker, .int x_t_day])), (a_homes, .inl (cI, 5, .inl (upd f_homes (Int32.toNatClampNeg v2) ((f_homes (Int32.toNatClampNeg v2)) + 1)))), (a_hullOf, .inl (cI, 5, .inl (upd f_hullOf (Int32.toNatClampNeg v2) (-6)))), (a_turn, .inl (cI, 5, .inl f_turn)), (a_nameOf, .inl (cI, 6, .inl q_46))]) rfl ?_
            refine ww_sub (ws' := [(a_t, .inr (4, [.ref a_nameOf, .ref a_hullOf, .ref a_homes, .ref a_turn, .ref b_taker, .int x_t_day])), (a_homes, .inl (cI, 5, .inl (upd f_homes (Int32.toNatClampNeg v2) ((f_homes (Int32.toNatClampNeg v2)) + 1)))), (a_hullOf, .inl (cI, 5, .inl (upd f_hullOf (Int32.toNatClampNeg v2) (-6)))), (a_nameOf, .inl (cI, 6, .inl q_46)), (a_turn, .inl (cI, 5, .inl f_turn))]) [0, 1, 2, 4, 3] rfl (by decide) ?_
            exact cut_67 _ _ _ _ _ _ h
  refine ww_aload_n B dX4_dawn_0 0 rfl ?_
  refine ww_iload_n B dX4_dawn_1 1 rfl ?_
  refine ww_put (ci := 4) (T := TX4) (C := RX4) (N := 6) (ty := .int) B iX4 tyX4 tyX4_ok nmX4 0 rfl rfl 5 (by decide) (by decide +kernel) rfl rfl (by decide +kernel) rfl rfl (Nat.le_of_ble_eq_true rfl) dX4_dawn_2 (ws' := [(a_t, .inr (4, [.ref a_nameOf, .ref a_hullOf, .ref a_homes, .ref a_turn, .ref b_taker, .int v1])), (a_homes, .inl (cI, 5, .inl f_homes)), (a_hullOf, .inl (cI, 5, .inl f_hullOf)), (a_nameOf, .inl (cI, 6, .inl f_nameOf)), (a_turn, .inl (cI, 5, .inl f_turn))]) rfl ?_
  refine ww_iconst B dX4_dawn_5 (v := 0) (by decide) ?_
  refine ww_istore_n B dX4_dawn_6 (lv' := [(2, .int 0), (0, .ref a_t), (1, .int v1)]) (by decide) rfl ?_
  refine ww_lsel (lv' := [(0, .ref a_t), (1, .int v1), (2, .int 0)]) [1, 2, 0] rfl ?_
  exact cut_7 _ _ _ _ _ _ _ h
noncomputable def m_X4_dayAtHome (f_hullOf : (Nat → Int32)) (f_turn : (Nat → Int32)) (x_t_day : Int32) (v1 : Int32) : Option Int32 := ogb (m_X7_at 5 f_hullOf v1) (fun q_5 => if q_5 = (-7) then (some (-7)) else (if q_5 = (-6) then (some x_t_day) else (ogb (m_X7_at 5 f_turn v1) (fun q_36 => some q_36))))
set_option maxHeartbeats 4000000 in
set_option maxRecDepth 100000 in
theorem c_X4_dayAtHome (l : Launch) (D : va_G) (cI cZ : ClassId) (a_t a_hullOf a_turn b_nameOf b_homes b_taker : Nat) (f_hullOf : (Nat → Int32)) (f_turn : (Nat → Int32)) (x_t_day : Int32) (v1 : Int32) {res : Int32} (h : m_X4_dayAtHome f_hullOf f_turn x_t_day v1 = some res) : CT l yX4_dayAtHome wsX4_dayAtHome ({ frames := 1, cells := 0, slots := 0, locals := 21 } : Room) D cI cZ [.ref a_t, .int v1] [(a_t, .inr (4, [.ref b_nameOf, .ref a_hullOf, .ref b_homes, .ref a_turn, .ref b_taker, .int x_t_day])), (a_hullOf, .inl (cI, 5, .inl f_hullOf)), (a_turn, .inl (cI, 5, .inl f_turn))] (QI D [(a_t, .inr (4, [.ref b_nameOf, .ref a_hullOf, .ref b_homes, .ref a_turn, .ref b_taker, .int x_t_day])), (a_hullOf, .inl (cI, 5, .inl f_hullOf)), (a_turn, .inl (cI, 5, .inl f_turn))] (fun (r : Int32) (_ : Unit) => r = res) (fun (u : Unit) => [(a_t, .inr (4, [.ref b_nameOf, .ref a_hullOf, .ref b_homes, .ref a_turn, .ref b_taker, .int x_t_day])), (a_hullOf, .inl (cI, 5, .inl f_hullOf)), (a_turn, .inl (cI, 5, .inl f_turn))])) 0 0 := by
  have h : (ogb (m_X7_at 5 f_hullOf v1) (fun q_5 => if q_5 = (-7) then (some (-7)) else (if q_5 = (-6) then (some x_t_day) else (ogb (m_X7_at 5 f_turn v1) (fun q_36 => some q_36)))) : Option Int32) = some res := h
  refine ct_entry (cc := cX4_dayAtHome) (nl := 3) (ret := (some .int)) (own := RX4) (lv0 := [(0, .ref a_t), (1, .int v1)]) (by decide) rfl rfl (Nat.le_of_ble_eq_true rfl) rfl ?_
  intro p e s m args below meth c A Q hA hQ hr hnm B
  have iX4 : ∀ w ∈ wsX40, w ∈ wsX4_dayAtHome := by decide +kernel
  refine ww_aload_n B dX4_dayAtHome_0 0 rfl ?_
  refine ww_get (ci := 4) (T := TX4) (C := RX4) (N := 6) B iX4 0 rfl rfl 1 (by decide) (by decide +kernel) rfl rfl dX4_dayAtHome_1 ?_
  refine ww_iload_n B dX4_dayAtHome_4 1 rfl ?_
  obtain ⟨q_5, hq_5, h⟩ := og_b h
  refine ww_ci0 B (k' := 0) (n' := 0) rfl rfl [1] [0, 2] (wr := [(a_t, .inr (4, [.ref b_nameOf, .ref a_hullOf, .ref b_homes, .ref a_turn, .ref b_taker, .int x_t_day])), (a_turn, .inl (cI, 5, .inl f_turn))]) (st := []) rfl rfl (by decide) (rr_SN B (c_X7_at l D cI cZ a_hullOf 5 f_hullOf v1 hq_5) gX4_dayAtHome_X7_at_n43 rfl rfl rfl (by decide +kernel) (by decide +kernel) (by decide +kernel) (N := 2) rfl (by decide +kernel) ⟨Nat.le_of_ble_eq_true rfl, Nat.le_of_ble_eq_true rfl⟩ rfl dX4_dayAtHome_5 (Nat.le_of_ble_eq_true rfl) ⟨Nat.le_of_ble_eq_true rfl, Nat.le_of_ble_eq_true rfl⟩) (ws' := [(a_t, .inr (4, [.ref b_nameOf, .ref a_hullOf, .ref b_homes, .ref a_turn, .ref b_taker, .int x_t_day])), (a_turn, .inl (cI, 5, .inl f_turn)), (a_hullOf, .inl (cI, 5, .inl f_hullOf))]) rfl ?_
  refine ww_istore_n B dX4_dayAtHome_8 (lv' := [(2, .int q_5), (0, .ref a_t), (1, .int v1)]) (by decide) rfl ?_
  refine ww_iload_n B dX4_dayAtHome_9 0 rfl ?_
  refine ww_bipush B dX4_dayAtHome_10 (v := (-7)) (by decide) ?_
  refine ww_icmp_ne B 18 dX4_dayAtHome_12 (by decide) (fun c_12 => ?_) (fun c_12 => ?_)
  · replace h := og_f c_12 h
    refine ww_iload_n B dX4_dayAtHome_18 0 rfl ?_
    refine ww_bipush B dX4_dayAtHome_19 (v := (-6)) (by decide) ?_
    refine ww_icmp_ne B 31 dX4_dayAtHome_21 (by decide) (fun c_21 => ?_) (fun c_21 => ?_)
    · replace h := og_f c_21 h
      refine ww_aload_n B dX4_dayAtHome_31 1 rfl ?_
      refine ww_get (ci := 4) (T := TX4) (C := RX4) (N := 6) B iX4 0 rfl rfl 3 (by decide) (by decide +kernel) rfl rfl dX4_dayAtHome_32 ?_
      refine ww_iload_n B dX4_dayAtHome_35 2 rfl ?_
      obtain ⟨q_36, hq_36, h⟩ := og_b h
      refine ww_ci0 B (k' := 0) (n' := 0) rfl rfl [1] [0, 2] (wr := [(a_t, .inr (4, [.ref b_nameOf, .ref a_hullOf, .ref b_homes, .ref a_turn, .ref b_taker, .int x_t_day])), (a_hullOf, .inl (cI, 5, .inl f_hullOf))]) (st := []) rfl rfl (by decide) (rr_SN B (c_X7_at l D cI cZ a_turn 5 f_turn v1 hq_36) gX4_dayAtHome_X7_at_n43 rfl rfl rfl (by decide +kernel) (by decide +kernel) (by decide +kernel) (N := 2) rfl (by decide +kernel) ⟨Nat.le_of_ble_eq_true rfl, Nat.le_of_ble_eq_true rfl⟩ rfl dX4_dayAtHome_36 (Nat.le_of_ble_eq_true rfl) ⟨Nat.le_of_ble_eq_true rfl, Nat.le_of_ble_eq_true rfl⟩) (ws' := [(a_t, .inr (4, [.ref b_nameOf, .ref a_hullOf, .ref b_homes, .ref a_turn, .ref b_taker, .int x_t_day])), (a_hullOf, .inl (cI, 5, .inl f_hullOf)), (a_turn, .inl (cI, 5, .inl f_turn))]) rfl ?_
      exact ww_iret B hA hQ hr dX4_dayAtHome_39 () [0, 1, 2] rfl (by decide) (og_s h).symm
    · replace h := og_t c_21 h
      refine ww_aload_n B dX4_dayAtHome_24 1 rfl ?_
      refine ww_get (ci := 4) (T := TX4) (C := RX4) (N := 6) B iX4 0 rfl rfl 5 (by decide) (by decide +kernel) rfl rfl dX4_dayAtHome_25 ?_
      refine ww_goto B 39 dX4_dayAtHome_28 (by decide) ?_
      exact ww_iret B hA hQ hr dX4_dayAtHome_39 () [0, 2, 1] rfl (by decide) (og_s h).symm
  · replace h := og_t c_12 h
    refine ww_bipush B dX4_dayAtHome_15 (v := (-7)) (by decide) ?_
    exact ww_iret B hA hQ hr dX4_dayAtHome_17 () [0, 2, 1] rfl (by decide) (og_s h).symm
noncomputable def m_X4_drown (x_t_day : Int32) (f_hullOf : (Nat → Int32)) (f_nameOf : (Nat → Int32)) (f_turn : (Nat → Int32)) (v1 : Int32) : Option ((Nat → Int32) × (Nat → Int32) × (Nat → Int32)) := ogb (m_X7_at 5 f_hullOf v1) (fun q_9 => ogb (m_X7_put 6 f_nameOf q_9 (-7)) (fun q_14 => ogb (m_X7_put 5 f_hullOf v1 (-7)) (fun q_24 => ogb (m_X7_put 5 f_turn v1 x_t_day) (fun q_36 => some (q_24, q_14, q_36)))))
set_option maxHeartbeats 4000000 in
set_option maxRecDepth 100000 in
theorem c_X4_drown (l : Launch) (D : va_G) (cI cZ : ClassId) (a_t a_hullOf a_nameOf a_turn b_homes b_taker : Nat) (f_hullOf : (Nat → Int32)) (f_nameOf : (Nat → Int32)) (f_turn : (Nat → Int32)) (x_t_day : Int32) (v1 : Int32) {res : ((Nat → Int32) × (Nat → Int32) × (Nat → Int32))} (h : m_X4_drown x_t_day f_hullOf f_nameOf f_turn v1 = some res) : CT l yX4_drown wsX4_drown ({ frames := 1, cells := 0, slots := 0, locals := 22 } : Room) D cI cZ [.ref a_t, .int v1] [(a_t, .inr (4, [.ref a_nameOf, .ref a_hullOf, .ref b_homes, .ref a_turn, .ref b_taker, .int x_t_day])), (a_hullOf, .inl (cI, 5, .inl f_hullOf)), (a_nameOf, .inl (cI, 6, .inl f_nameOf)), (a_turn, .inl (cI, 5, .inl f_turn))] (QV D [(a_t, .inr (4, [.ref a_nameOf, .ref a_hullOf, .ref b_homes, .ref a_turn, .ref b_taker, .int x_t_day])), (a_hullOf, .inl (cI, 5, .inl f_hullOf)), (a_nameOf, .inl (cI, 6, .inl f_nameOf)), (a_turn, .inl (cI, 5, .inl f_turn))] (fun (u : (Nat → Int32) × (Nat → Int32) × (Nat → Int32)) => u = res) (fun (u : (Nat → Int32) × (Nat → Int32) × (Nat → Int32)) => [(a_t, .inr (4, [.ref a_nameOf, .ref a_hullOf, .ref b_homes, .ref a_turn, .ref b_taker, .int x_t_day])), (a_hullOf, .inl (cI, 5, .inl u.1)), (a_nameOf, .inl (cI, 6, .inl u.2.1)), (a_turn, .inl (cI, 5, .inl u.2.2))])) 0 0 := by
  have h : (ogb (m_X7_at 5 f_hullOf v1) (fun q_9 => ogb (m_X7_put 6 f_nameOf q_9 (-7)) (fun q_14 => ogb (m_X7_put 5 f_hullOf v1 (-7)) (fun q_24 => ogb (m_X7_put 5 f_turn v1 x_t_day) (fun q_36 => some (q_24, q_14, q_36))))) : Option ((Nat → Int32) × (Nat → Int32) × (Nat → Int32))) = some res := h
  refine ct_entry (cc := cX4_drown) (nl := 2) (ret := none) (own := RX4) (lv0 := [(0, .ref a_t), (1, .int v1)]) (by decide) rfl rfl (Nat.le_of_ble_eq_true rfl) rfl ?_
  intro p e s m args below meth c A Q hA hQ hr hnm B
  have iX4 : ∀ w ∈ wsX40, w ∈ wsX4_drown := by decide +kernel
  refine ww_aload_n B dX4_drown_0 0 rfl ?_
  refine ww_get (ci := 4) (T := TX4) (C := RX4) (N := 6) B iX4 0 rfl rfl 0 (by decide) (by decide +kernel) rfl rfl dX4_drown_1 ?_
  refine ww_aload_n B dX4_drown_4 0 rfl ?_
  refine ww_get (ci := 4) (T := TX4) (C := RX4) (N := 6) B iX4 0 rfl rfl 1 (by decide) (by decide +kernel) rfl rfl dX4_drown_5 ?_
  refine ww_iload_n B dX4_drown_8 1 rfl ?_
  obtain ⟨q_9, hq_9, h⟩ := og_b h
  refine ww_ci0 B (k' := 0) (n' := 0) rfl rfl [1] [0, 2, 3] (wr := [(a_t, .inr (4, [.ref a_nameOf, .ref a_hullOf, .ref b_homes, .ref a_turn, .ref b_taker, .int x_t_day])), (a_nameOf, .inl (cI, 6, .inl f_nameOf)), (a_turn, .inl (cI, 5, .inl f_turn))]) (st := [.ref a_nameOf]) rfl rfl (by decide) (rr_SN B (c_X7_at l D cI cZ a_hullOf 5 f_hullOf v1 hq_9) gX4_drown_X7_at_n43 rfl rfl rfl (by decide +kernel) (by decide +kernel) (by decide +kernel) (N := 2) rfl (by decide +kernel) ⟨Nat.le_of_ble_eq_true rfl, Nat.le_of_ble_eq_true rfl⟩ rfl dX4_drown_9 (Nat.le_of_ble_eq_true rfl) ⟨Nat.le_of_ble_eq_true rfl, Nat.le_of_ble_eq_true rfl⟩) (ws' := [(a_t, .inr (4, [.ref a_nameOf, .ref a_hullOf, .ref b_homes, .ref a_turn, .ref b_taker, .int x_t_day])), (a_nameOf, .inl (cI, 6, .inl f_nameOf)), (a_turn, .inl (cI, 5, .inl f_turn)), (a_hullOf, .inl (cI, 5, .inl f_hullOf))]) rfl ?_
  refine ww_bipush B dX4_drown_12 (v := (-7)) (by decide) ?_
  obtain ⟨q_14, hq_14, h⟩ := og_b h
  refine ww_cvM B (k' := 0) (n' := 0) rfl rfl [1] [0, 2, 3] (wr := [(a_t, .inr (4, [.ref a_nameOf, .ref a_hullOf, .ref b_homes, .ref a_turn, .ref b_taker, .int x_t_day])), (a_turn, .inl (cI, 5, .inl f_turn)), (a_hullOf, .inl (cI, 5, .inl f_hullOf))]) (st := []) rfl rfl (by decide) (rr_SN B (c_X7_put l D cI cZ a_nameOf 6 f_nameOf q_9 (-7) hq_14) gX4_drown_X7_put_n39 rfl rfl rfl (by decide +kernel) (by decide +kernel) (by decide +kernel) (N := 3) rfl (by decide +kernel) ⟨Nat.le_of_ble_eq_true rfl, Nat.le_of_ble_eq_true rfl⟩ rfl dX4_drown_14 (Nat.le_of_ble_eq_true rfl) ⟨Nat.le_of_ble_eq_true rfl, Nat.le_of_ble_eq_true rfl⟩) (ws' := [(a_t, .inr (4, [.ref a_nameOf, .ref a_hullOf, .ref b_homes, .ref a_turn, .ref b_taker, .int x_t_day])), (a_turn, .inl (cI, 5, .inl f_turn)), (a_hullOf, .inl (cI, 5, .inl f_hullOf)), (a_nameOf, .inl (cI, 6, .inl q_14))]) rfl ?_
  refine ww_aload_n B dX4_drown_17 0 rfl ?_
  refine ww_get (ci := 4) (T := TX4) (C := RX4) (N := 6) B iX4 0 rfl rfl 1 (by decide) (by decide +kernel) rfl rfl dX4_drown_18 ?_
  refine ww_iload_n B dX4_drown_21 1 rfl ?_
  refine ww_bipush B dX4_drown_22 (v := (-7)) (by decide) ?_
  obtain ⟨q_24, hq_24, h⟩ := og_b h
  refine ww_cvM B (k' := 0) (n' := 0) rfl rfl [2] [0, 1, 3] (wr := [(a_t, .inr (4, [.ref a_nameOf, .ref a_hullOf, .ref b_homes, .ref a_turn, .ref b_taker, .int x_t_day])), (a_turn, .inl (cI, 5, .inl f_turn)), (a_nameOf, .inl (cI, 6, .inl q_14))]) (st := []) rfl rfl (by decide) (rr_SN B (c_X7_put l D cI cZ a_hullOf 5 f_hullOf v1 (-7) hq_24) gX4_drown_X7_put_n39 rfl rfl rfl (by decide +kernel) (by decide +kernel) (by decide +kernel) (N := 3) rfl (by decide +kernel) ⟨Nat.le_of_ble_eq_true rfl, Nat.le_of_ble_eq_true rfl⟩ rfl dX4_drown_24 (Nat.le_of_ble_eq_true rfl) ⟨Nat.le_of_ble_eq_true rfl, Nat.le_of_ble_eq_true rfl⟩) (ws' := [(a_t, .inr (4, [.ref a_nameOf, .ref a_hullOf, .ref b_homes, .ref a_turn, .ref b_taker, .int x_t_day])), (a_turn, .inl (cI, 5, .inl f_turn)), (a_nameOf, .inl (cI, 6, .inl q_14)), (a_hullOf, .inl (cI, 5, .inl q_24))]) rfl ?_
  refine ww_aload_n B dX4_drown_27 0 rfl ?_
  refine ww_get (ci := 4) (T := TX4) (C := RX4) (N := 6) B iX4 0 rfl rfl 3 (by decide) (by decide +kernel) rfl rfl dX4_drown_28 ?_
  refine ww_iload_n B dX4_drown_31 1 rfl ?_
  refine ww_aload_n B dX4_drown_32 0 rfl ?_
  refine ww_get (ci := 4) (T := TX4) (C := RX4) (N := 6) B iX4 0 rfl rfl 5 (by decide) (by decide +kernel) rfl rfl dX4_drown_33 ?_
  obtain ⟨q_36, hq_36, h⟩ := og_b h
  refine ww_cvM B (k' := 0) (n' := 0) rfl rfl [1] [0, 2, 3] (wr := [(a_t, .inr (4, [.ref a_nameOf, .ref a_hullOf, .ref b_homes, .ref a_turn, .ref b_taker, .int x_t_day])), (a_nameOf, .inl (cI, 6, .inl q_14)), (a_hullOf, .inl (cI, 5, .inl q_24))]) (st := []) rfl rfl (by decide) (rr_SN B (c_X7_put l D cI cZ a_turn 5 f_turn v1 x_t_day hq_36) gX4_drown_X7_put_n39 rfl rfl rfl (by decide +kernel) (by decide +kernel) (by decide +kernel) (N := 3) rfl (by decide +kernel) ⟨Nat.le_of_ble_eq_true rfl, Nat.le_of_ble_eq_true rfl⟩ rfl dX4_drown_36 (Nat.le_of_ble_eq_true rfl) ⟨Nat.le_of_ble_eq_true rfl, Nat.le_of_ble_eq_true rfl⟩) (ws' := [(a_t, .inr (4, [.ref a_nameOf, .ref a_hullOf, .ref b_homes, .ref a_turn, .ref b_taker, .int x_t_day])), (a_nameOf, .inl (cI, 6, .inl q_14)), (a_hullOf, .inl (cI, 5, .inl q_24)), (a_turn, .inl (cI, 5, .inl q_36))]) rfl ?_
  exact ww_vret B hA hQ hr dX4_drown_39 (q_24, q_14, q_36) [0, 2, 1, 3] rfl (by decide) (og_s h).symm
noncomputable def m_X4_drownedHulls_24 (k4 : Int32 → Int32 → Option Int32) (f_nameOf : (Nat → Int32)) (v1 : Int32) (v2 : Int32) : Option Int32 := ogl (v2 + 1) (fun (v2_24 : Int32) => (k4 v1 v2_24))
noncomputable def m_X4_drownedHulls_4b (k4 : Int32 → Int32 → Option Int32) (f_nameOf : (Nat → Int32)) (v1 : Int32) (v2 : Int32) : Option Int32 := if 6 ≤ v2 then (some v1) else (ogi v2 6 (if (f_nameOf (Int32.toNatClampNeg v2)) = (-7) then (ogl (v1 + 1) (fun (v1_21 : Int32) => (m_X4_drownedHulls_24 k4 f_nameOf v1_21 v2))) else ((m_X4_drownedHulls_24 k4 f_nameOf v1 v2))))
noncomputable def m_X4_drownedHulls_4 (f_nameOf : (Nat → Int32)) (fuel : Nat) : Int32 → Int32 → Option Int32 := Nat.rec (fun _ _ => none) (fun _ k4 => m_X4_drownedHulls_4b k4 f_nameOf) fuel
noncomputable def m_X4_drownedHulls (f_nameOf : (Nat → Int32)) : Option Int32 := (m_X4_drownedHulls_4 f_nameOf 1000000 0 0)
set_option maxHeartbeats 4000000 in
set_option maxRecDepth 100000 in
theorem c_X4_drownedHulls (l : Launch) (D : va_G) (cI cZ : ClassId) (a_t a_nameOf b_hullOf b_homes b_turn b_taker : Nat) (f_nameOf : (Nat → Int32)) (x_t_day : Int32) {res : Int32} (h : m_X4_drownedHulls f_nameOf = some res) : CT l yX4_drownedHulls wsX4_drownedHulls ({ frames := 0, cells := 0, slots := 0, locals := 0 } : Room) D cI cZ [.ref a_t] [(a_t, .inr (4, [.ref a_nameOf, .ref b_hullOf, .ref b_homes, .ref b_turn, .ref b_taker, .int x_t_day])), (a_nameOf, .inl (cI, 6, .inl f_nameOf))] (QI D [(a_t, .inr (4, [.ref a_nameOf, .ref b_hullOf, .ref b_homes, .ref b_turn, .ref b_taker, .int x_t_day])), (a_nameOf, .inl (cI, 6, .inl f_nameOf))] (fun (r : Int32) (_ : Unit) => r = res) (fun (u : Unit) => [(a_t, .inr (4, [.ref a_nameOf, .ref b_hullOf, .ref b_homes, .ref b_turn, .ref b_taker, .int x_t_day])), (a_nameOf, .inl (cI, 6, .inl f_nameOf))])) 0 0 := by
  have h : ((m_X4_drownedHulls_4 f_nameOf 1000000 0 0) : Option Int32) = some res := h
  refine ct_entry (cc := cX4_drownedHulls) (nl := 3) (ret := (some .int)) (own := RX4) (lv0 := [(0, .ref a_t)]) (by decide) rfl rfl (Nat.le_of_ble_eq_true rfl) rfl ?_
  intro p e s m args below meth c A Q hA hQ hr hnm B
  have iX4 : ∀ w ∈ wsX40, w ∈ wsX4_drownedHulls := by decide +kernel
  have cut_4 : ∀ (fuel : Nat) (v1 : Int32) (v2 : Int32), m_X4_drownedHulls_4 f_nameOf fuel v1 v2 = some res → WW p l e (headSpec wsX4_drownedHulls ({ frames := 0, cells := 0, slots := 0, locals := 0 } : Room)).room s m args below meth c D A 3 0 0 Q [(a_t, .inr (4, [.ref a_nameOf, .ref b_hullOf, .ref b_homes, .ref b_turn, .ref b_taker, .int x_t_day])), (a_nameOf, .inl (cI, 6, .inl f_nameOf))] [(0, .ref a_t), (1, .int v1), (2, .int v2)] [] 4 := by
    intro fuel_4
    induction fuel_4 with
    | zero => intro v1 v2 h; exact og_0 h
    | succ fuel_4 ih_4 =>
      have cut_24 : ∀ (v1 : Int32) (v2 : Int32), m_X4_drownedHulls_24 (m_X4_drownedHulls_4 f_nameOf fuel_4) f_nameOf v1 v2 = some res → WW p l e (headSpec wsX4_drownedHulls ({ frames := 0, cells := 0, slots := 0, locals := 0 } : Room)).room s m args below meth c D A 3 0 0 Q [(a_t, .inr (4, [.ref a_nameOf, .ref b_hullOf, .ref b_homes, .ref b_turn, .ref b_taker, .int x_t_day])), (a_nameOf, .inl (cI, 6, .inl f_nameOf))] [(0, .ref a_t), (1, .int v1), (2, .int v2)] [] 24 := by
        intro v1 v2 h
        replace h : (ogl (v2 + 1) (fun (v2_24 : Int32) => ((m_X4_drownedHulls_4 f_nameOf fuel_4) v1 v2_24)) : Option Int32) = some res := h
        obtain ⟨v2_24, ev2_24⟩ : ∃ y : Int32, y = (v2 + 1) := ⟨_, rfl⟩
        refine ww_iinc B dX4_drownedHulls_24 2 rfl (v := v2_24) (by rw [ev2_24]; rfl) (by decide) (lv' := [(2, .int v2_24), (0, .ref a_t), (1, .int v1)]) rfl ?_
        replace h := og_l ev2_24 h
        refine ww_goto B 4 dX4_drownedHulls_27 (by decide) ?_
        refine ww_lsel (lv' := [(0, .ref a_t), (1, .int v1), (2, .int v2_24)]) [1, 2, 0] rfl ?_
        exact ih_4 _ _ h
      intro v1 v2 h
      replace h : (if 6 ≤ v2 then (some v1) else (ogi v2 6 (if (f_nameOf (Int32.toNatClampNeg v2)) = (-7) then (ogl (v1 + 1) (fun (v1_21 : Int32) => (m_X4_drownedHulls_24 (m_X4_drownedHulls_4 f_nameOf fuel_4) f_nameOf v1_21 v2))) else ((m_X4_drownedHulls_24 (m_X4_drownedHulls_4 f_nameOf fuel_4) f_nameOf v1 v2)))) : Option Int32) = some res := h
      refine ww_iload_n B dX4_drownedHulls_4 2 rfl ?_
      refine ww_bipush B dX4_drownedHulls_5 (v := 6) (by decide) ?_
      refine ww_icmp_ge B 30 dX4_drownedHulls_7 (by decide) (fun c_7 => ?_) (fun c_7 => ?_)
      · replace h := og_t c_7 h
        refine ww_iload_n B dX4_drownedHulls_30 1 rfl ?_
        exact ww_iret B hA hQ hr dX4_drownedHulls_31 () [0, 1] rfl (by decide) (og_s h).symm
      · replace h := og_f c_7 h
        refine ww_aload_n B dX4_drownedHulls_10 0 rfl ?_
        refine ww_get (ci := 4) (T := TX4) (C := RX4) (N := 6) B iX4 0 rfl rfl 0 (by decide) (by decide +kernel) rfl rfl dX4_drownedHulls_11 ?_
        refine ww_iload_n B dX4_drownedHulls_14 2 rfl ?_
        obtain ⟨i_15, h⟩ := og_i h
        refine ww_iald B 1 rfl i_15 dX4_drownedHulls_15 ?_
        refine ww_bipush B dX4_drownedHulls_16 (v := (-7)) (by decide) ?_
        refine ww_icmp_ne B 24 dX4_drownedHulls_18 (by decide) (fun c_18 => ?_) (fun c_18 => ?_)
        · replace h := og_f c_18 h
          exact cut_24 _ _ h
        · replace h := og_t c_18 h
          obtain ⟨v1_21, ev1_21⟩ : ∃ y : Int32, y = (v1 + 1) := ⟨_, rfl⟩
          refine ww_iinc B dX4_drownedHulls_21 1 rfl (v := v1_21) (by rw [ev1_21]; rfl) (by decide) (lv' := [(1, .int v1_21), (0, .ref a_t), (2, .int v2)]) rfl ?_
          replace h := og_l ev1_21 h
          refine ww_lsel (lv' := [(0, .ref a_t), (1, .int v1_21), (2, .int v2)]) [1, 0, 2] rfl ?_
          exact cut_24 _ _ h
  refine ww_iconst B dX4_drownedHulls_0 (v := 0) (by decide) ?_
  refine ww_istore_n B dX4_drownedHulls_1 (lv' := [(1, .int 0), (0, .ref a_t)]) (by decide) rfl ?_
  refine ww_iconst B dX4_drownedHulls_2 (v := 0) (by decide) ?_
  refine ww_istore_n B dX4_drownedHulls_3 (lv' := [(2, .int 0), (1, .int 0), (0, .ref a_t)]) (by decide) rfl ?_
  refine ww_lsel (lv' := [(0, .ref a_t), (1, .int 0), (2, .int 0)]) [2, 1, 0] rfl ?_
  exact cut_4 _ _ _ h
noncomputable def m_X4_drownedNames_26 (k4 : Int32 → Int32 → Option Int32) (f_hullOf : (Nat → Int32)) (v1 : Int32) (v2 : Int32) : Option Int32 := ogl (v2 + 1) (fun (v2_26 : Int32) => (k4 v1 v2_26))
noncomputable def m_X4_drownedNames_4b (k4 : Int32 → Int32 → Option Int32) (f_hullOf : (Nat → Int32)) (v1 : Int32) (v2 : Int32) : Option Int32 := if 5 ≤ v2 then (some v1) else (ogi v2 5 (if (f_hullOf (Int32.toNatClampNeg v2)) = (-7) then (ogl (v1 ||| ((1 : Int32) <<< ((v2 : Int32) &&& 31))) (fun (v1_25 : Int32) => (m_X4_drownedNames_26 k4 f_hullOf v1_25 v2))) else ((m_X4_drownedNames_26 k4 f_hullOf v1 v2))))
noncomputable def m_X4_drownedNames_4 (f_hullOf : (Nat → Int32)) (fuel : Nat) : Int32 → Int32 → Option Int32 := Nat.rec (fun _ _ => none) (fun _ k4 => m_X4_drownedNames_4b k4 f_hullOf) fuel
noncomputable def m_X4_drownedNames (f_hullOf : (Nat → Int32)) : Option Int32 := (m_X4_drownedNames_4 f_hullOf 1000000 0 0)
set_option maxHeartbeats 4000000 in
set_option maxRecDepth 100000 in
theorem c_X4_drownedNames (l : Launch) (D : va_G) (cI cZ : ClassId) (a_t a_hullOf b_nameOf b_homes b_turn b_taker : Nat) (f_hullOf : (Nat → Int32)) (x_t_day : Int32) {res : Int32} (h : m_X4_drownedNames f_hullOf = some res) : CT l yX4_drownedNames wsX4_drownedNames ({ frames := 0, cells := 0, slots := 0, locals := 0 } : Room) D cI cZ [.ref a_t] [(a_t, .inr (4, [.ref b_nameOf, .ref a_hullOf, .ref b_homes, .ref b_turn, .ref b_taker, .int x_t_day])), (a_hullOf, .inl (cI, 5, .inl f_hullOf))] (QI D [(a_t, .inr (4, [.ref b_nameOf, .ref a_hullOf, .ref b_homes, .ref b_turn, .ref b_taker, .int x_t_day])), (a_hullOf, .inl (cI, 5, .inl f_hullOf))] (fun (r : Int32) (_ : Unit) => r = res) (fun (u : Unit) => [(a_t, .inr (4, [.ref b_nameOf, .ref a_hullOf, .ref b_homes, .ref b_turn, .ref b_taker, .int x_t_day])), (a_hullOf, .inl (cI, 5, .inl f_hullOf))])) 0 0 := by
  have h : ((m_X4_drownedNames_4 f_hullOf 1000000 0 0) : Option Int32) = some res := h
  refine ct_entry (cc := cX4_drownedNames) (nl := 3) (ret := (some .int)) (own := RX4) (lv0 := [(0, .ref a_t)]) (by decide) rfl rfl (Nat.le_of_ble_eq_true rfl) rfl ?_
  intro p e s m args below meth c A Q hA hQ hr hnm B
  have iX4 : ∀ w ∈ wsX40, w ∈ wsX4_drownedNames := by decide +kernel
  have cut_4 : ∀ (fuel : Nat) (v1 : Int32) (v2 : Int32), m_X4_drownedNames_4 f_hullOf fuel v1 v2 = some res → WW p l e (headSpec wsX4_drownedNames ({ frames := 0, cells := 0, slots := 0, locals := 0 } : Room)).room s m args below meth c D A 3 0 0 Q [(a_t, .inr (4, [.ref b_nameOf, .ref a_hullOf, .ref b_homes, .ref b_turn, .ref b_taker, .int x_t_day])), (a_hullOf, .inl (cI, 5, .inl f_hullOf))] [(0, .ref a_t), (1, .int v1), (2, .int v2)] [] 4 := by
    intro fuel_4
    induction fuel_4 with
    | zero => intro v1 v2 h; exact og_0 h
    | succ fuel_4 ih_4 =>
      have cut_26 : ∀ (v1 : Int32) (v2 : Int32), m_X4_drownedNames_26 (m_X4_drownedNames_4 f_hullOf fuel_4) f_hullOf v1 v2 = some res → WW p l e (headSpec wsX4_drownedNames ({ frames := 0, cells := 0, slots := 0, locals := 0 } : Room)).room s m args below meth c D A 3 0 0 Q [(a_t, .inr (4, [.ref b_nameOf, .ref a_hullOf, .ref b_homes, .ref b_turn, .ref b_taker, .int x_t_day])), (a_hullOf, .inl (cI, 5, .inl f_hullOf))] [(0, .ref a_t), (1, .int v1), (2, .int v2)] [] 26 := by
        intro v1 v2 h
        replace h : (ogl (v2 + 1) (fun (v2_26 : Int32) => ((m_X4_drownedNames_4 f_hullOf fuel_4) v1 v2_26)) : Option Int32) = some res := h
        obtain ⟨v2_26, ev2_26⟩ : ∃ y : Int32, y = (v2 + 1) := ⟨_, rfl⟩
        refine ww_iinc B dX4_drownedNames_26 2 rfl (v := v2_26) (by rw [ev2_26]; rfl) (by decide) (lv' := [(2, .int v2_26), (0, .ref a_t), (1, .int v1)]) rfl ?_
        replace h := og_l ev2_26 h
        refine ww_goto B 4 dX4_drownedNames_29 (by decide) ?_
        refine ww_lsel (lv' := [(0, .ref a_t), (1, .int v1), (2, .int v2_26)]) [1, 2, 0] rfl ?_
        exact ih_4 _ _ h
      intro v1 v2 h
      replace h : (if 5 ≤ v2 then (some v1) else (ogi v2 5 (if (f_hullOf (Int32.toNatClampNeg v2)) = (-7) then (ogl (v1 ||| ((1 : Int32) <<< ((v2 : Int32) &&& 31))) (fun (v1_25 : Int32) => (m_X4_drownedNames_26 (m_X4_drownedNames_4 f_hullOf fuel_4) f_hullOf v1_25 v2))) else ((m_X4_drownedNames_26 (m_X4_drownedNames_4 f_hullOf fuel_4) f_hullOf v1 v2)))) : Option Int32) = some res := h
      refine ww_iload_n B dX4_drownedNames_4 2 rfl ?_
      refine ww_iconst B dX4_drownedNames_5 (v := 5) (by decide) ?_
      refine ww_icmp_ge B 32 dX4_drownedNames_6 (by decide) (fun c_6 => ?_) (fun c_6 => ?_)
      · replace h := og_t c_6 h
        refine ww_iload_n B dX4_drownedNames_32 1 rfl ?_
        exact ww_iret B hA hQ hr dX4_drownedNames_33 () [0, 1] rfl (by decide) (og_s h).symm
      · replace h := og_f c_6 h
        refine ww_aload_n B dX4_drownedNames_9 0 rfl ?_
        refine ww_get (ci := 4) (T := TX4) (C := RX4) (N := 6) B iX4 0 rfl rfl 1 (by decide) (by decide +kernel) rfl rfl dX4_drownedNames_10 ?_
        refine ww_iload_n B dX4_drownedNames_13 2 rfl ?_
        obtain ⟨i_14, h⟩ := og_i h
        refine ww_iald B 1 rfl i_14 dX4_drownedNames_14 ?_
        refine ww_bipush B dX4_drownedNames_15 (v := (-7)) (by decide) ?_
        refine ww_icmp_ne B 26 dX4_drownedNames_17 (by decide) (fun c_17 => ?_) (fun c_17 => ?_)
        · replace h := og_f c_17 h
          exact cut_26 _ _ h
        · replace h := og_t c_17 h
          refine ww_iload_n B dX4_drownedNames_20 1 rfl ?_
          refine ww_iconst B dX4_drownedNames_21 (v := 1) (by decide) ?_
          refine ww_iload_n B dX4_drownedNames_22 2 rfl ?_
          refine ww_ishl B dX4_drownedNames_23 ?_
          refine ww_ior B dX4_drownedNames_24 ?_
          refine ww_topi (fun v1_25 ev1_25 => ?_)
          replace h := og_l ev1_25 h
          refine ww_istore_n B dX4_drownedNames_25 (lv' := [(1, .int v1_25), (0, .ref a_t), (2, .int v2)]) (by decide) rfl ?_
          refine ww_lsel (lv' := [(0, .ref a_t), (1, .int v1_25), (2, .int v2)]) [1, 0, 2] rfl ?_
          exact cut_26 _ _ h
  refine ww_iconst B dX4_drownedNames_0 (v := 0) (by decide) ?_
  refine ww_istore_n B dX4_drownedNames_1 (lv' := [(1, .int 0), (0, .ref a_t)]) (by decide) rfl ?_
  refine ww_iconst B dX4_drownedNames_2 (v := 0) (by decide) ?_
  refine ww_istore_n B dX4_drownedNames_3 (lv' := [(2, .int 0), (1, .int 0), (0, .ref a_t)]) (by decide) rfl ?_
  refine ww_lsel (lv' := [(0, .ref a_t), (1, .int 0), (2, .int 0)]) [2, 1, 0] rfl ?_
  exact cut_4 _ _ _ h
noncomputable def m_X4_sail (x_t_day : Int32) (f_hullOf : (Nat → Int32)) (f_nameOf : (Nat → Int32)) (f_taker : (Nat → Int32)) (f_turn : (Nat → Int32)) (v1 : Int32) (v2 : Int32) (v3 : Int32) : Option ((Nat → Int32) × (Nat → Int32) × (Nat → Int32) × (Nat → Int32)) := ogb (m_X7_put 6 f_nameOf v1 v2) (fun q_6 => ogb (m_X7_put 5 f_hullOf v2 v1) (fun q_15 => ogb (m_X7_put 5 f_taker v2 v1) (fun q_24 => ogb (m_X7_put 5 f_turn v2 (x_t_day + v3)) (fun q_38 => some (q_15, q_6, q_24, q_38)))))
set_option maxHeartbeats 4000000 in
set_option maxRecDepth 100000 in
theorem c_X4_sail (l : Launch) (D : va_G) (cI cZ : ClassId) (a_t a_hullOf a_nameOf a_taker a_turn b_homes : Nat) (f_hullOf : (Nat → Int32)) (f_nameOf : (Nat → Int32)) (f_taker : (Nat → Int32)) (f_turn : (Nat → Int32)) (x_t_day : Int32) (v1 : Int32) (v2 : Int32) (v3 : Int32) {res : ((Nat → Int32) × (Nat → Int32) × (Nat → Int32) × (Nat → Int32))} (h : m_X4_sail x_t_day f_hullOf f_nameOf f_taker f_turn v1 v2 v3 = some res) : CT l yX4_sail wsX4_sail ({ frames := 1, cells := 0, slots := 0, locals := 22 } : Room) D cI cZ [.ref a_t, .int v1, .int v2, .int v3] [(a_t, .inr (4, [.ref a_nameOf, .ref a_hullOf, .ref b_homes, .ref a_turn, .ref a_taker, .int x_t_day])), (a_hullOf, .inl (cI, 5, .inl f_hullOf)), (a_nameOf, .inl (cI, 6, .inl f_nameOf)), (a_taker, .inl (cI, 5, .inl f_taker)), (a_turn, .inl (cI, 5, .inl f_turn))] (QV D [(a_t, .inr (4, [.ref a_nameOf, .ref a_hullOf, .ref b_homes, .ref a_turn, .ref a_taker, .int x_t_day])), (a_hullOf, .inl (cI, 5, .inl f_hullOf)), (a_nameOf, .inl (cI, 6, .inl f_nameOf)), (a_taker, .inl (cI, 5, .inl f_taker)), (a_turn, .inl (cI, 5, .inl f_turn))] (fun (u : (Nat → Int32) × (Nat → Int32) × (Nat → Int32) × (Nat → Int32)) => u = res) (fun (u : (Nat → Int32) × (Nat → Int32) × (Nat → Int32) × (Nat → Int32)) => [(a_t, .inr (4, [.ref a_nameOf, .ref a_hullOf, .ref b_homes, .ref a_turn, .ref a_taker, .int x_t_day])), (a_hullOf, .inl (cI, 5, .inl u.1)), (a_nameOf, .inl (cI, 6, .inl u.2.1)), (a_taker, .inl (cI, 5, .inl u.2.2.1)), (a_turn, .inl (cI, 5, .inl u.2.2.2))])) 0 0 := by
  have h : (ogb (m_X7_put 6 f_nameOf v1 v2) (fun q_6 => ogb (m_X7_put 5 f_hullOf v2 v1) (fun q_15 => ogb (m_X7_put 5 f_taker v2 v1) (fun q_24 => ogb (m_X7_put 5 f_turn v2 (x_t_day + v3)) (fun q_38 => some (q_15, q_6, q_24, q_38))))) : Option ((Nat → Int32) × (Nat → Int32) × (Nat → Int32) × (Nat → Int32))) = some res := h
  refine ct_entry (cc := cX4_sail) (nl := 4) (ret := none) (own := RX4) (lv0 := [(0, .ref a_t), (1, .int v1), (2, .int v2), (3, .int v3)]) (by decide) rfl rfl (Nat.le_of_ble_eq_true rfl) rfl ?_
  intro p e s m args below meth c A Q hA hQ hr hnm B
  have iX4 : ∀ w ∈ wsX40, w ∈ wsX4_sail := by decide +kernel
  refine ww_aload_n B dX4_sail_0 0 rfl ?_
  refine ww_get (ci := 4) (T := TX4) (C := RX4) (N := 6) B iX4 0 rfl rfl 0 (by decide) (by decide +kernel) rfl rfl dX4_sail_1 ?_
  refine ww_iload_n B dX4_sail_4 1 rfl ?_
  refine ww_iload_n B dX4_sail_5 2 rfl ?_
  obtain ⟨q_6, hq_6, h⟩ := og_b h
  refine ww_cvM B (k' := 0) (n' := 0) rfl rfl [2] [0, 1, 3, 4] (wr := [(a_t, .inr (4, [.ref a_nameOf, .ref a_hullOf, .ref b_homes, .ref a_turn, .ref a_taker, .int x_t_day])), (a_hullOf, .inl (cI, 5, .inl f_hullOf)), (a_taker, .inl (cI, 5, .inl f_taker)), (a_turn, .inl (cI, 5, .inl f_turn))]) (st := []) rfl rfl (by decide) (rr_SN B (c_X7_put l D cI cZ a_nameOf 6 f_nameOf v1 v2 hq_6) gX4_sail_X7_put_n39 rfl rfl rfl (by decide +kernel) (by decide +kernel) (by decide +kernel) (N := 3) rfl (by decide +kernel) ⟨Nat.le_of_ble_eq_true rfl, Nat.le_of_ble_eq_true rfl⟩ rfl dX4_sail_6 (Nat.le_of_ble_eq_true rfl) ⟨Nat.le_of_ble_eq_true rfl, Nat.le_of_ble_eq_true rfl⟩) (ws' := [(a_t, .inr (4, [.ref a_nameOf, .ref a_hullOf, .ref b_homes, .ref a_turn, .ref a_taker, .int x_t_day])), (a_hullOf, .inl (cI, 5, .inl f_hullOf)), (a_taker, .inl (cI, 5, .inl f_taker)), (a_turn, .inl (cI, 5, .inl f_turn)), (a_nameOf, .inl (cI, 6, .inl q_6))]) rfl ?_
  refine ww_aload_n B dX4_sail_9 0 rfl ?_
  refine ww_get (ci := 4) (T := TX4) (C := RX4) (N := 6) B iX4 0 rfl rfl 1 (by decide) (by decide +kernel) rfl rfl dX4_sail_10 ?_
  refine ww_iload_n B dX4_sail_13 2 rfl ?_
  refine ww_iload_n B dX4_sail_14 1 rfl ?_
  obtain ⟨q_15, hq_15, h⟩ := og_b h
  refine ww_cvM B (k' := 0) (n' := 0) rfl rfl [1] [0, 2, 3, 4] (wr := [(a_t, .inr (4, [.ref a_nameOf, .ref a_hullOf, .ref b_homes, .ref a_turn, .ref a_taker, .int x_t_day])), (a_taker, .inl (cI, 5, .inl f_taker)), (a_turn, .inl (cI, 5, .inl f_turn)), (a_nameOf, .inl (cI, 6, .inl q_6))]) (st := []) rfl rfl (by decide) (rr_SN B (c_X7_put l D cI cZ a_hullOf 5 f_hullOf v2 v1 hq_15) gX4_sail_X7_put_n39 rfl rfl rfl (by decide +kernel) (by decide +kernel) (by decide +kernel) (N := 3) rfl (by decide +kernel) ⟨Nat.le_of_ble_eq_true rfl, Nat.le_of_ble_eq_true rfl⟩ rfl dX4_sail_15 (Nat.le_of_ble_eq_true rfl) ⟨Nat.le_of_ble_eq_true rfl, Nat.le_of_ble_eq_true rfl⟩) (ws' := [(a_t, .inr (4, [.ref a_nameOf, .ref a_hullOf, .ref b_homes, .ref a_turn, .ref a_taker, .int x_t_day])), (a_taker, .inl (cI, 5, .inl f_taker)), (a_turn, .inl (cI, 5, .inl f_turn)), (a_nameOf, .inl (cI, 6, .inl q_6)), (a_hullOf, .inl (cI, 5, .inl q_15))]) rfl ?_
  refine ww_aload_n B dX4_sail_18 0 rfl ?_
  refine ww_get (ci := 4) (T := TX4) (C := RX4) (N := 6) B iX4 0 rfl rfl 4 (by decide) (by decide +kernel) rfl rfl dX4_sail_19 ?_
  refine ww_iload_n B dX4_sail_22 2 rfl ?_
  refine ww_iload_n B dX4_sail_23 1 rfl ?_
  obtain ⟨q_24, hq_24, h⟩ := og_b h
  refine ww_cvM B (k' := 0) (n' := 0) rfl rfl [1] [0, 2, 3, 4] (wr := [(a_t, .inr (4, [.ref a_nameOf, .ref a_hullOf, .ref b_homes, .ref a_turn, .ref a_taker, .int x_t_day])), (a_turn, .inl (cI, 5, .inl f_turn)), (a_nameOf, .inl (cI, 6, .inl q_6)), (a_hullOf, .inl (cI, 5, .inl q_15))]) (st := []) rfl rfl (by decide) (rr_SN B (c_X7_put l D cI cZ a_taker 5 f_taker v2 v1 hq_24) gX4_sail_X7_put_n39 rfl rfl rfl (by decide +kernel) (by decide +kernel) (by decide +kernel) (N := 3) rfl (by decide +kernel) ⟨Nat.le_of_ble_eq_true rfl, Nat.le_of_ble_eq_true rfl⟩ rfl dX4_sail_24 (Nat.le_of_ble_eq_true rfl) ⟨Nat.le_of_ble_eq_true rfl, Nat.le_of_ble_eq_true rfl⟩) (ws' := [(a_t, .inr (4, [.ref a_nameOf, .ref a_hullOf, .ref b_homes, .ref a_turn, .ref a_taker, .int x_t_day])), (a_turn, .inl (cI, 5, .inl f_turn)), (a_nameOf, .inl (cI, 6, .inl q_6)), (a_hullOf, .inl (cI, 5, .inl q_15)), (a_taker, .inl (cI, 5, .inl q_24))]) rfl ?_
  refine ww_aload_n B dX4_sail_27 0 rfl ?_
  refine ww_get (ci := 4) (T := TX4) (C := RX4) (N := 6) B iX4 0 rfl rfl 3 (by decide) (by decide +kernel) rfl rfl dX4_sail_28 ?_
  refine ww_iload_n B dX4_sail_31 2 rfl ?_
  refine ww_aload_n B dX4_sail_32 0 rfl ?_
  refine ww_get (ci := 4) (T := TX4) (C := RX4) (N := 6) B iX4 0 rfl rfl 5 (by decide) (by decide +kernel) rfl rfl dX4_sail_33 ?_
  refine ww_iload_n B dX4_sail_36 3 rfl ?_
  refine ww_iadd B dX4_sail_37 ?_
  obtain ⟨q_38, hq_38, h⟩ := og_b h
  refine ww_cvM B (k' := 0) (n' := 0) rfl rfl [1] [0, 2, 3, 4] (wr := [(a_t, .inr (4, [.ref a_nameOf, .ref a_hullOf, .ref b_homes, .ref a_turn, .ref a_taker, .int x_t_day])), (a_nameOf, .inl (cI, 6, .inl q_6)), (a_hullOf, .inl (cI, 5, .inl q_15)), (a_taker, .inl (cI, 5, .inl q_24))]) (st := []) rfl rfl (by decide) (rr_SN B (c_X7_put l D cI cZ a_turn 5 f_turn v2 (x_t_day + v3) hq_38) gX4_sail_X7_put_n39 rfl rfl rfl (by decide +kernel) (by decide +kernel) (by decide +kernel) (N := 3) rfl (by decide +kernel) ⟨Nat.le_of_ble_eq_true rfl, Nat.le_of_ble_eq_true rfl⟩ rfl dX4_sail_38 (Nat.le_of_ble_eq_true rfl) ⟨Nat.le_of_ble_eq_true rfl, Nat.le_of_ble_eq_true rfl⟩) (ws' := [(a_t, .inr (4, [.ref a_nameOf, .ref a_hullOf, .ref b_homes, .ref a_turn, .ref a_taker, .int x_t_day])), (a_nameOf, .inl (cI, 6, .inl q_6)), (a_hullOf, .inl (cI, 5, .inl q_15)), (a_taker, .inl (cI, 5, .inl q_24)), (a_turn, .inl (cI, 5, .inl q_38))]) rfl ?_
  exact ww_vret B hA hQ hr dX4_sail_41 (q_15, q_6, q_24, q_38) [0, 2, 1, 3, 4] rfl (by decide) (og_s h).symm
noncomputable def m_X4_whyNotDrown (f_hullOf : (Nat → Int32)) (v1 : Int32) : Option Int32 := ogb (m_X7_at 5 f_hullOf v1) (fun q_5 => if q_5 = (-7) then (some 3) else (ogb (m_X7_at 5 f_hullOf v1) (fun q_20 => if q_20 = (-6) then (some 4) else (some 0))))
set_option maxHeartbeats 4000000 in
set_option maxRecDepth 100000 in
theorem c_X4_whyNotDrown (l : Launch) (D : va_G) (cI cZ : ClassId) (a_t a_hullOf b_nameOf b_homes b_turn b_taker : Nat) (f_hullOf : (Nat → Int32)) (x_t_day : Int32) (v1 : Int32) {res : Int32} (h : m_X4_whyNotDrown f_hullOf v1 = some res) : CT l yX4_whyNotDrown wsX4_whyNotDrown ({ frames := 1, cells := 0, slots := 0, locals := 21 } : Room) D cI cZ [.ref a_t, .int v1] [(a_t, .inr (4, [.ref b_nameOf, .ref a_hullOf, .ref b_homes, .ref b_turn, .ref b_taker, .int x_t_day])), (a_hullOf, .inl (cI, 5, .inl f_hullOf))] (QI D [(a_t, .inr (4, [.ref b_nameOf, .ref a_hullOf, .ref b_homes, .ref b_turn, .ref b_taker, .int x_t_day])), (a_hullOf, .inl (cI, 5, .inl f_hullOf))] (fun (r : Int32) (_ : Unit) => r = res) (fun (u : Unit) => [(a_t, .inr (4, [.ref b_nameOf, .ref a_hullOf, .ref b_homes, .ref b_turn, .ref b_taker, .int x_t_day])), (a_hullOf, .inl (cI, 5, .inl f_hullOf))])) 0 0 := by
  have h : (ogb (m_X7_at 5 f_hullOf v1) (fun q_5 => if q_5 = (-7) then (some 3) else (ogb (m_X7_at 5 f_hullOf v1) (fun q_20 => if q_20 = (-6) then (some 4) else (some 0)))) : Option Int32) = some res := h
  refine ct_entry (cc := cX4_whyNotDrown) (nl := 2) (ret := (some .int)) (own := RX4) (lv0 := [(0, .ref a_t), (1, .int v1)]) (by decide) rfl rfl (Nat.le_of_ble_eq_true rfl) rfl ?_
  intro p e s m args below meth c A Q hA hQ hr hnm B
  have iX4 : ∀ w ∈ wsX40, w ∈ wsX4_whyNotDrown := by decide +kernel
  refine ww_aload_n B dX4_whyNotDrown_0 0 rfl ?_
  refine ww_get (ci := 4) (T := TX4) (C := RX4) (N := 6) B iX4 0 rfl rfl 1 (by decide) (by decide +kernel) rfl rfl dX4_whyNotDrown_1 ?_
  refine ww_iload_n B dX4_whyNotDrown_4 1 rfl ?_
  obtain ⟨q_5, hq_5, h⟩ := og_b h
  refine ww_ci0 B (k' := 0) (n' := 0) rfl rfl [1] [0] (wr := [(a_t, .inr (4, [.ref b_nameOf, .ref a_hullOf, .ref b_homes, .ref b_turn, .ref b_taker, .int x_t_day]))]) (st := []) rfl rfl (by decide) (rr_SN B (c_X7_at l D cI cZ a_hullOf 5 f_hullOf v1 hq_5) gX4_whyNotDrown_X7_at_n43 rfl rfl rfl (by decide +kernel) (by decide +kernel) (by decide +kernel) (N := 2) rfl (by decide +kernel) ⟨Nat.le_of_ble_eq_true rfl, Nat.le_of_ble_eq_true rfl⟩ rfl dX4_whyNotDrown_5 (Nat.le_of_ble_eq_true rfl) ⟨Nat.le_of_ble_eq_true rfl, Nat.le_of_ble_eq_true rfl⟩) (ws' := [(a_t, .inr (4, [.ref b_nameOf, .ref a_hullOf, .ref b_homes, .ref b_turn, .ref b_taker, .int x_t_day])), (a_hullOf, .inl (cI, 5, .inl f_hullOf))]) rfl ?_
  refine ww_bipush B dX4_whyNotDrown_8 (v := (-7)) (by decide) ?_
  refine ww_icmp_ne B 15 dX4_whyNotDrown_10 (by decide) (fun c_10 => ?_) (fun c_10 => ?_)
  · replace h := og_f c_10 h
    refine ww_aload_n B dX4_whyNotDrown_15 0 rfl ?_
    refine ww_get (ci := 4) (T := TX4) (C := RX4) (N := 6) B iX4 0 rfl rfl 1 (by decide) (by decide +kernel) rfl rfl dX4_whyNotDrown_16 ?_
    refine ww_iload_n B dX4_whyNotDrown_19 1 rfl ?_
    obtain ⟨q_20, hq_20, h⟩ := og_b h
    refine ww_ci0 B (k' := 0) (n' := 0) rfl rfl [1] [0] (wr := [(a_t, .inr (4, [.ref b_nameOf, .ref a_hullOf, .ref b_homes, .ref b_turn, .ref b_taker, .int x_t_day]))]) (st := []) rfl rfl (by decide) (rr_SN B (c_X7_at l D cI cZ a_hullOf 5 f_hullOf v1 hq_20) gX4_whyNotDrown_X7_at_n43 rfl rfl rfl (by decide +kernel) (by decide +kernel) (by decide +kernel) (N := 2) rfl (by decide +kernel) ⟨Nat.le_of_ble_eq_true rfl, Nat.le_of_ble_eq_true rfl⟩ rfl dX4_whyNotDrown_20 (Nat.le_of_ble_eq_true rfl) ⟨Nat.le_of_ble_eq_true rfl, Nat.le_of_ble_eq_true rfl⟩) (ws' := [(a_t, .inr (4, [.ref b_nameOf, .ref a_hullOf, .ref b_homes, .ref b_turn, .ref b_taker, .int x_t_day])), (a_hullOf, .inl (cI, 5, .inl f_hullOf))]) rfl ?_
    refine ww_bipush B dX4_whyNotDrown_23 (v := (-6)) (by decide) ?_
    refine ww_icmp_ne B 32 dX4_whyNotDrown_25 (by decide) (fun c_25 => ?_) (fun c_25 => ?_)
    · replace h := og_f c_25 h
      refine ww_iconst B dX4_whyNotDrown_32 (v := 0) (by decide) ?_
      exact ww_iret B hA hQ hr dX4_whyNotDrown_33 () [0, 1] rfl (by decide) (og_s h).symm
    · replace h := og_t c_25 h
      refine ww_iconst B dX4_whyNotDrown_28 (v := 4) (by decide) ?_
      refine ww_goto B 33 dX4_whyNotDrown_29 (by decide) ?_
      exact ww_iret B hA hQ hr dX4_whyNotDrown_33 () [0, 1] rfl (by decide) (og_s h).symm
  · replace h := og_t c_10 h
    refine ww_iconst B dX4_whyNotDrown_13 (v := 3) (by decide) ?_
    exact ww_iret B hA hQ hr dX4_whyNotDrown_14 () [0, 1] rfl (by decide) (og_s h).symm
noncomputable def m_X4_whyNotSail (f_hullOf : (Nat → Int32)) (f_nameOf : (Nat → Int32)) (v1 : Int32) (v2 : Int32) (v3 : Int32) : Option Int32 := ogb (m_X7_at 6 f_nameOf v1) (fun q_5 => if q_5 = (-7) then (some 1) else (ogb (m_X7_at 6 f_nameOf v1) (fun q_20 => if q_20 = (-6) then (ogb (m_X7_at 5 f_hullOf v2) (fun q_35 => if q_35 = (-7) then (some 3) else (ogb (m_X7_at 5 f_hullOf v2) (fun q_50 => if q_50 = (-6) then (if v3 = 0 then (some 5) else (some 0)) else (some 4))))) else (some 2))))
set_option maxHeartbeats 4000000 in
set_option maxRecDepth 100000 in
theorem c_X4_whyNotSail (l : Launch) (D : va_G) (cI cZ : ClassId) (a_t a_hullOf a_nameOf b_homes b_turn b_taker : Nat) (f_hullOf : (Nat → Int32)) (f_nameOf : (Nat → Int32)) (x_t_day : Int32) (v1 : Int32) (v2 : Int32) (v3 : Int32) {res : Int32} (h : m_X4_whyNotSail f_hullOf f_nameOf v1 v2 v3 = some res) : CT l yX4_whyNotSail wsX4_whyNotSail ({ frames := 1, cells := 0, slots := 0, locals := 21 } : Room) D cI cZ [.ref a_t, .int v1, .int v2, .int v3] [(a_t, .inr (4, [.ref a_nameOf, .ref a_hullOf, .ref b_homes, .ref b_turn, .ref b_taker, .int x_t_day])), (a_hullOf, .inl (cI, 5, .inl f_hullOf)), (a_nameOf, .inl (cI, 6, .inl f_nameOf))] (QI D [(a_t, .inr (4, [.ref a_nameOf, .ref a_hullOf, .ref b_homes, .ref b_turn, .ref b_taker, .int x_t_day])), (a_hullOf, .inl (cI, 5, .inl f_hullOf)), (a_nameOf, .inl (cI, 6, .inl f_nameOf))] (fun (r : Int32) (_ : Unit) => r = res) (fun (u : Unit) => [(a_t, .inr (4, [.ref a_nameOf, .ref a_hullOf, .ref b_homes, .ref b_turn, .ref b_taker, .int x_t_day])), (a_hullOf, .inl (cI, 5, .inl f_hullOf)), (a_nameOf, .inl (cI, 6, .inl f_nameOf))])) 0 0 := by
  have h : (ogb (m_X7_at 6 f_nameOf v1) (fun q_5 => if q_5 = (-7) then (some 1) else (ogb (m_X7_at 6 f_nameOf v1) (fun q_20 => if q_20 = (-6) then (ogb (m_X7_at 5 f_hullOf v2) (fun q_35 => if q_35 = (-7) then (some 3) else (ogb (m_X7_at 5 f_hullOf v2) (fun q_50 => if q_50 = (-6) then (if v3 = 0 then (some 5) else (some 0)) else (some 4))))) else (some 2)))) : Option Int32) = some res := h
  refine ct_entry (cc := cX4_whyNotSail) (nl := 4) (ret := (some .int)) (own := RX4) (lv0 := [(0, .ref a_t), (1, .int v1), (2, .int v2), (3, .int v3)]) (by decide) rfl rfl (Nat.le_of_ble_eq_true rfl) rfl ?_
  intro p e s m args below meth c A Q hA hQ hr hnm B
  have iX4 : ∀ w ∈ wsX40, w ∈ wsX4_whyNotSail := by decide +kernel
  refine ww_aload_n B dX4_whyNotSail_0 0 rfl ?_
  refine ww_get (ci := 4) (T := TX4) (C := RX4) (N := 6) B iX4 0 rfl rfl 0 (by decide) (by decide +kernel) rfl rfl dX4_whyNotSail_1 ?_
  refine ww_iload_n B dX4_whyNotSail_4 1 rfl ?_
  obtain ⟨q_5, hq_5, h⟩ := og_b h
  refine ww_ci0 B (k' := 0) (n' := 0) rfl rfl [2] [0, 1] (wr := [(a_t, .inr (4, [.ref a_nameOf, .ref a_hullOf, .ref b_homes, .ref b_turn, .ref b_taker, .int x_t_day])), (a_hullOf, .inl (cI, 5, .inl f_hullOf))]) (st := []) rfl rfl (by decide) (rr_SN B (c_X7_at l D cI cZ a_nameOf 6 f_nameOf v1 hq_5) gX4_whyNotSail_X7_at_n43 rfl rfl rfl (by decide +kernel) (by decide +kernel) (by decide +kernel) (N := 2) rfl (by decide +kernel) ⟨Nat.le_of_ble_eq_true rfl, Nat.le_of_ble_eq_true rfl⟩ rfl dX4_whyNotSail_5 (Nat.le_of_ble_eq_true rfl) ⟨Nat.le_of_ble_eq_true rfl, Nat.le_of_ble_eq_true rfl⟩) (ws' := [(a_t, .inr (4, [.ref a_nameOf, .ref a_hullOf, .ref b_homes, .ref b_turn, .ref b_taker, .int x_t_day])), (a_hullOf, .inl (cI, 5, .inl f_hullOf)), (a_nameOf, .inl (cI, 6, .inl f_nameOf))]) rfl ?_
  refine ww_bipush B dX4_whyNotSail_8 (v := (-7)) (by decide) ?_
  refine ww_icmp_ne B 15 dX4_whyNotSail_10 (by decide) (fun c_10 => ?_) (fun c_10 => ?_)
  · replace h := og_f c_10 h
    refine ww_aload_n B dX4_whyNotSail_15 0 rfl ?_
    refine ww_get (ci := 4) (T := TX4) (C := RX4) (N := 6) B iX4 0 rfl rfl 0 (by decide) (by decide +kernel) rfl rfl dX4_whyNotSail_16 ?_
    refine ww_iload_n B dX4_whyNotSail_19 1 rfl ?_
    obtain ⟨q_20, hq_20, h⟩ := og_b h
    refine ww_ci0 B (k' := 0) (n' := 0) rfl rfl [2] [0, 1] (wr := [(a_t, .inr (4, [.ref a_nameOf, .ref a_hullOf, .ref b_homes, .ref b_turn, .ref b_taker, .int x_t_day])), (a_hullOf, .inl (cI, 5, .inl f_hullOf))]) (st := []) rfl rfl (by decide) (rr_SN B (c_X7_at l D cI cZ a_nameOf 6 f_nameOf v1 hq_20) gX4_whyNotSail_X7_at_n43 rfl rfl rfl (by decide +kernel) (by decide +kernel) (by decide +kernel) (N := 2) rfl (by decide +kernel) ⟨Nat.le_of_ble_eq_true rfl, Nat.le_of_ble_eq_true rfl⟩ rfl dX4_whyNotSail_20 (Nat.le_of_ble_eq_true rfl) ⟨Nat.le_of_ble_eq_true rfl, Nat.le_of_ble_eq_true rfl⟩) (ws' := [(a_t, .inr (4, [.ref a_nameOf, .ref a_hullOf, .ref b_homes, .ref b_turn, .ref b_taker, .int x_t_day])), (a_hullOf, .inl (cI, 5, .inl f_hullOf)), (a_nameOf, .inl (cI, 6, .inl f_nameOf))]) rfl ?_
    refine ww_bipush B dX4_whyNotSail_23 (v := (-6)) (by decide) ?_
    refine ww_icmp_eq B 30 dX4_whyNotSail_25 (by decide) (fun c_25 => ?_) (fun c_25 => ?_)
    · replace h := og_t c_25 h
      refine ww_aload_n B dX4_whyNotSail_30 0 rfl ?_
      refine ww_get (ci := 4) (T := TX4) (C := RX4) (N := 6) B iX4 0 rfl rfl 1 (by decide) (by decide +kernel) rfl rfl dX4_whyNotSail_31 ?_
      refine ww_iload_n B dX4_whyNotSail_34 2 rfl ?_
      obtain ⟨q_35, hq_35, h⟩ := og_b h
      refine ww_ci0 B (k' := 0) (n' := 0) rfl rfl [1] [0, 2] (wr := [(a_t, .inr (4, [.ref a_nameOf, .ref a_hullOf, .ref b_homes, .ref b_turn, .ref b_taker, .int x_t_day])), (a_nameOf, .inl (cI, 6, .inl f_nameOf))]) (st := []) rfl rfl (by decide) (rr_SN B (c_X7_at l D cI cZ a_hullOf 5 f_hullOf v2 hq_35) gX4_whyNotSail_X7_at_n43 rfl rfl rfl (by decide +kernel) (by decide +kernel) (by decide +kernel) (N := 2) rfl (by decide +kernel) ⟨Nat.le_of_ble_eq_true rfl, Nat.le_of_ble_eq_true rfl⟩ rfl dX4_whyNotSail_35 (Nat.le_of_ble_eq_true rfl) ⟨Nat.le_of_ble_eq_true rfl, Nat.le_of_ble_eq_true rfl⟩) (ws' := [(a_t, .inr (4, [.ref a_nameOf, .ref a_hullOf, .ref b_homes, .ref b_turn, .ref b_taker, .int x_t_day])), (a_nameOf, .inl (cI, 6, .inl f_nameOf)), (a_hullOf, .inl (cI, 5, .inl f_hullOf))]) rfl ?_
      refine ww_bipush B dX4_whyNotSail_38 (v := (-7)) (by decide) ?_
      refine ww_icmp_ne B 45 dX4_whyNotSail_40 (by decide) (fun c_40 => ?_) (fun c_40 => ?_)
      · replace h := og_f c_40 h
        refine ww_aload_n B dX4_whyNotSail_45 0 rfl ?_
        refine ww_get (ci := 4) (T := TX4) (C := RX4) (N := 6) B iX4 0 rfl rfl 1 (by decide) (by decide +kernel) rfl rfl dX4_whyNotSail_46 ?_
        refine ww_iload_n B dX4_whyNotSail_49 2 rfl ?_
        obtain ⟨q_50, hq_50, h⟩ := og_b h
        refine ww_ci0 B (k' := 0) (n' := 0) rfl rfl [2] [0, 1] (wr := [(a_t, .inr (4, [.ref a_nameOf, .ref a_hullOf, .ref b_homes, .ref b_turn, .ref b_taker, .int x_t_day])), (a_nameOf, .inl (cI, 6, .inl f_nameOf))]) (st := []) rfl rfl (by decide) (rr_SN B (c_X7_at l D cI cZ a_hullOf 5 f_hullOf v2 hq_50) gX4_whyNotSail_X7_at_n43 rfl rfl rfl (by decide +kernel) (by decide +kernel) (by decide +kernel) (N := 2) rfl (by decide +kernel) ⟨Nat.le_of_ble_eq_true rfl, Nat.le_of_ble_eq_true rfl⟩ rfl dX4_whyNotSail_50 (Nat.le_of_ble_eq_true rfl) ⟨Nat.le_of_ble_eq_true rfl, Nat.le_of_ble_eq_true rfl⟩) (ws' := [(a_t, .inr (4, [.ref a_nameOf, .ref a_hullOf, .ref b_homes, .ref b_turn, .ref b_taker, .int x_t_day])), (a_nameOf, .inl (cI, 6, .inl f_nameOf)), (a_hullOf, .inl (cI, 5, .inl f_hullOf))]) rfl ?_
        refine ww_bipush B dX4_whyNotSail_53 (v := (-6)) (by decide) ?_
        refine ww_icmp_eq B 60 dX4_whyNotSail_55 (by decide) (fun c_55 => ?_) (fun c_55 => ?_)
        · replace h := og_t c_55 h
          refine ww_iload_n B dX4_whyNotSail_60 3 rfl ?_
          refine ww_if_eq B 68 dX4_whyNotSail_61 (by decide) (fun c_61 => ?_) (fun c_61 => ?_)
          · replace h := og_t c_61 h
            refine ww_iconst B dX4_whyNotSail_68 (v := 5) (by decide) ?_
            exact ww_iret B hA hQ hr dX4_whyNotSail_69 () [0, 2, 1] rfl (by decide) (og_s h).symm
          · replace h := og_f c_61 h
            refine ww_iconst B dX4_whyNotSail_64 (v := 0) (by decide) ?_
            refine ww_goto B 69 dX4_whyNotSail_65 (by decide) ?_
            exact ww_iret B hA hQ hr dX4_whyNotSail_69 () [0, 2, 1] rfl (by decide) (og_s h).symm
        · replace h := og_f c_55 h
          refine ww_iconst B dX4_whyNotSail_58 (v := 4) (by decide) ?_
          exact ww_iret B hA hQ hr dX4_whyNotSail_59 () [0, 2, 1] rfl (by decide) (og_s h).symm
      · replace h := og_t c_40 h
        refine ww_iconst B dX4_whyNotSail_43 (v := 3) (by decide) ?_
        exact ww_iret B hA hQ hr dX4_whyNotSail_44 () [0, 2, 1] rfl (by decide) (og_s h).symm
    · replace h := og_f c_25 h
      refine ww_iconst B dX4_whyNotSail_28 (v := 2) (by decide) ?_
      exact ww_iret B hA hQ hr dX4_whyNotSail_29 () [0, 1, 2] rfl (by decide) (og_s h).symm
  · replace h := og_t c_10 h
    refine ww_iconst B dX4_whyNotSail_13 (v := 1) (by decide) ?_
    exact ww_iret B hA hQ hr dX4_whyNotSail_14 () [0, 1, 2] rfl (by decide) (og_s h).symm
