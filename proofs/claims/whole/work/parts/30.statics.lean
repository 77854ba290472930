noncomputable def m_X7_fill_2b (k2 : Int32 → Int32 → (Nat → Int32) → Option ((Nat → Int32))) (N_r0 : Nat) (v1 : Int32) (v2 : Int32) (f_r0 : (Nat → Int32)) : Option ((Nat → Int32)) := if (Int32.ofNat N_r0) ≤ v2 then (some f_r0) else (ogi v2 N_r0 (ogl (v2 + 1) (fun (v2_12 : Int32) => (k2 v1 v2_12 (upd f_r0 (Int32.toNatClampNeg v2) v1)))))
noncomputable def m_X7_fill_2 (N_r0 : Nat) (fuel : Nat) : Int32 → Int32 → (Nat → Int32) → Option ((Nat → Int32)) := Nat.rec (fun _ _ _ => none) (fun _ k2 => m_X7_fill_2b k2 N_r0) fuel
noncomputable def m_X7_fill (N_r0 : Nat) (f_r0 : (Nat → Int32)) (v1 : Int32) : Option ((Nat → Int32)) := (m_X7_fill_2 N_r0 1000000 v1 0 f_r0)
set_option maxHeartbeats 4000000 in
set_option maxRecDepth 100000 in
theorem c_X7_fill (l : Launch) (D : va_G) (cI cZ : ClassId) (a_r0 : Nat) (N_r0 : Nat) (f_r0 : (Nat → Int32)) (v1 : Int32) {res : ((Nat → Int32))} (h : m_X7_fill N_r0 f_r0 v1 = some res) : CT l yX7_fill wsX7_fill ({ frames := 0, cells := 0, slots := 0, locals := 0 } : Room) D cI cZ [.ref a_r0, .int v1] [(a_r0, .inl (cI, N_r0, .inl f_r0))] (QV D [(a_r0, .inl (cI, N_r0, .inl f_r0))] (fun (u : (Nat → Int32)) => u = res) (fun (u : (Nat → Int32)) => [(a_r0, .inl (cI, N_r0, .inl u))])) 0 0 := by
  have h : ((m_X7_fill_2 N_r0 1000000 v1 0 f_r0) : Option ((Nat → Int32))) = some res := h
  refine ct_entry (cc := cX7_fill) (nl := 3) (ret := none) (own := RX7) (lv0 := [(0, .ref a_r0), (1, .int v1)]) (by decide) rfl rfl (Nat.le_of_ble_eq_true rfl) rfl ?_
  intro p e s m args below meth c A Q hA hQ hr hnm B
  have cut_2 : ∀ (fuel : Nat) (v1 : Int32) (v2 : Int32) (f_r0 : (Nat → Int32)), m_X7_fill_2 N_r0 fuel v1 v2 f_r0 = some res → WW p l e (headSpec wsX7_fill ({ frames := 0, cells := 0, slots := 0, locals := 0 } : Room)).room s m args below meth c D A 3 0 0 Q [(a_r0, .inl (cI, N_r0, .inl f_r0))] [(0, .ref a_r0), (1, .int v1), (2, .int v2)] [] 2 := by
    intro fuel_2
    induction fuel_2 with
    | zero => intro v1 v2 f_r0 h; exact og_0 h
    | succ fuel_2 ih_2 =>
      intro v1 v2 f_r0 h
      replace h : (if (Int32.ofNat N_r0) ≤ v2 then (some f_r0) else (ogi v2 N_r0 (ogl (v2 + 1) (fun (v2_12 : Int32) => ((m_X7_fill_2 N_r0 fuel_2) v1 v2_12 (upd f_r0 (Int32.toNatClampNeg v2) v1))))) : Option ((Nat → Int32))) = some res := h
      refine ww_iload_n B dX7_fill_2 2 rfl ?_
      refine ww_aload_n B dX7_fill_3 0 rfl ?_
      refine ww_alen B 0 rfl (v := (Int32.ofNat N_r0)) rfl dX7_fill_4 ?_
      refine ww_icmp_ge B 18 dX7_fill_5 (by decide) (fun c_5 => ?_) (fun c_5 => ?_)
      · replace h := og_t c_5 h
        exact ww_vret B hA hQ hr dX7_fill_18 f_r0 [0] rfl (by decide) (og_s h).symm
      · replace h := og_f c_5 h
        refine ww_aload_n B dX7_fill_8 0 rfl ?_
        refine ww_iload_n B dX7_fill_9 2 rfl ?_
        refine ww_iload_n B dX7_fill_10 1 rfl ?_
        obtain ⟨i_11, h⟩ := og_i h
        refine ww_iast B 0 rfl i_11 dX7_fill_11 (ws' := [(a_r0, .inl (cI, N_r0, .inl (upd f_r0 (Int32.toNatClampNeg v2) v1)))]) rfl ?_
        obtain ⟨v2_12, ev2_12⟩ : ∃ y : Int32, y = (v2 + 1) := ⟨_, rfl⟩
        refine ww_iinc B dX7_fill_12 2 rfl (v := v2_12) (by rw [ev2_12]; rfl) (by decide) (lv' := [(2, .int v2_12), (0, .ref a_r0), (1, .int v1)]) rfl ?_
        replace h := og_l ev2_12 h
        refine ww_goto B 2 dX7_fill_15 (by decide) ?_
        refine ww_lsel (lv' := [(0, .ref a_r0), (1, .int v1), (2, .int v2_12)]) [1, 2, 0] rfl ?_
        exact ih_2 _ _ _ h
  refine ww_iconst B dX7_fill_0 (v := 0) (by decide) ?_
  refine ww_istore_n B dX7_fill_1 (lv' := [(2, .int 0), (0, .ref a_r0), (1, .int v1)]) (by decide) rfl ?_
  refine ww_lsel (lv' := [(0, .ref a_r0), (1, .int v1), (2, .int 0)]) [1, 2, 0] rfl ?_
  exact cut_2 _ _ _ _ h
noncomputable def m_X7_at (N_r0 : Nat) (f_r0 : (Nat → Int32)) (v1 : Int32) : Option Int32 := if v1 < 0 then (some 0) else (if (Int32.ofNat N_r0) ≤ v1 then (some 0) else (ogi v1 N_r0 (some (f_r0 (Int32.toNatClampNeg v1)))))
set_option maxHeartbeats 4000000 in
set_option maxRecDepth 100000 in
theorem c_X7_at (l : Launch) (D : va_G) (cI cZ : ClassId) (a_r0 : Nat) (N_r0 : Nat) (f_r0 : (Nat → Int32)) (v1 : Int32) {res : Int32} (h : m_X7_at N_r0 f_r0 v1 = some res) : CT l yX7_at wsX7_at ({ frames := 0, cells := 0, slots := 0, locals := 0 } : Room) D cI cZ [.ref a_r0, .int v1] [(a_r0, .inl (cI, N_r0, .inl f_r0))] (QI D [(a_r0, .inl (cI, N_r0, .inl f_r0))] (fun (r : Int32) (_ : Unit) => r = res) (fun (u : Unit) => [(a_r0, .inl (cI, N_r0, .inl f_r0))])) 0 0 := by
  have h : (if v1 < 0 then (some 0) else (if (Int32.ofNat N_r0) ≤ v1 then (some 0) else (ogi v1 N_r0 (some (f_r0 (Int32.toNatClampNeg v1))))) : Option Int32) = some res := h
  refine ct_entry (cc := cX7_at) (nl := 2) (ret := (some .int)) (own := RX7) (lv0 := [(0, .ref a_r0), (1, .int v1)]) (by decide) rfl rfl (Nat.le_of_ble_eq_true rfl) rfl ?_
  intro p e s m args below meth c A Q hA hQ hr hnm B
  refine ww_iload_n B dX7_at_0 1 rfl ?_
  refine ww_if_lt B 16 dX7_at_1 (by decide) (fun c_1 => ?_) (fun c_1 => ?_)
  · replace h := og_t c_1 h
    refine ww_iconst B dX7_at_16 (v := 0) (by decide) ?_
    exact ww_iret B hA hQ hr dX7_at_17 () [0] rfl (by decide) (og_s h).symm
  · replace h := og_f c_1 h
    refine ww_iload_n B dX7_at_4 1 rfl ?_
    refine ww_aload_n B dX7_at_5 0 rfl ?_
    refine ww_alen B 0 rfl (v := (Int32.ofNat N_r0)) rfl dX7_at_6 ?_
    refine ww_icmp_ge B 16 dX7_at_7 (by decide) (fun c_7 => ?_) (fun c_7 => ?_)
    · replace h := og_t c_7 h
      refine ww_iconst B dX7_at_16 (v := 0) (by decide) ?_
      exact ww_iret B hA hQ hr dX7_at_17 () [0] rfl (by decide) (og_s h).symm
    · replace h := og_f c_7 h
      refine ww_aload_n B dX7_at_10 0 rfl ?_
      refine ww_iload_n B dX7_at_11 1 rfl ?_
      obtain ⟨i_12, h⟩ := og_i h
      refine ww_iald B 0 rfl i_12 dX7_at_12 ?_
      refine ww_goto B 17 dX7_at_13 (by decide) ?_
      exact ww_iret B hA hQ hr dX7_at_17 () [0] rfl (by decide) (og_s h).symm
noncomputable def m_X7_isHull (v0 : Int32) : Option Int32 := if v0 < 0 then (some 0) else (if 6 ≤ v0 then (some 0) else (some 1))
set_option maxHeartbeats 4000000 in
set_option maxRecDepth 100000 in
theorem c_X7_isHull (l : Launch) (D : va_G) (cI cZ : ClassId) (v0 : Int32) {res : Int32} (h : m_X7_isHull v0 = some res) : CT l yX7_isHull wsX7_isHull ({ frames := 0, cells := 0, slots := 0, locals := 0 } : Room) D cI cZ [.int v0] [] (QI D [] (fun (r : Int32) (_ : Unit) => r = res) (fun (u : Unit) => [])) 0 0 := by
  have h : (if v0 < 0 then (some 0) else (if 6 ≤ v0 then (some 0) else (some 1)) : Option Int32) = some res := h
  refine ct_entry (cc := cX7_isHull) (nl := 1) (ret := (some .boolean)) (own := RX7) (lv0 := [(0, .int v0)]) (by decide) rfl rfl (Nat.le_of_ble_eq_true rfl) rfl ?_
  intro p e s m args below meth c A Q hA hQ hr hnm B
  refine ww_iload_n B dX7_isHull_0 0 rfl ?_
  refine ww_if_lt B 14 dX7_isHull_1 (by decide) (fun c_1 => ?_) (fun c_1 => ?_)
  · replace h := og_t c_1 h
    refine ww_iconst B dX7_isHull_14 (v := 0) (by decide) ?_
    exact ww_zret B hA hQ hr (Or.inl rfl) dX7_isHull_15 () [] rfl (by decide) (og_s h).symm
  · replace h := og_f c_1 h
    refine ww_iload_n B dX7_isHull_4 0 rfl ?_
    refine ww_bipush B dX7_isHull_5 (v := 6) (by decide) ?_
    refine ww_icmp_ge B 14 dX7_isHull_7 (by decide) (fun c_7 => ?_) (fun c_7 => ?_)
    · replace h := og_t c_7 h
      refine ww_iconst B dX7_isHull_14 (v := 0) (by decide) ?_
      exact ww_zret B hA hQ hr (Or.inl rfl) dX7_isHull_15 () [] rfl (by decide) (og_s h).symm
    · replace h := og_f c_7 h
      refine ww_iconst B dX7_isHull_10 (v := 1) (by decide) ?_
      refine ww_goto B 15 dX7_isHull_11 (by decide) ?_
      exact ww_zret B hA hQ hr (Or.inr rfl) dX7_isHull_15 () [] rfl (by decide) (og_s h).symm
noncomputable def m_X7_hasBit (v0 : Int32) (v1 : Int32) : Option Int32 := if v1 < 0 then (some 0) else (if (((v0 : Int32) >>> ((v1 : Int32) &&& 31)) &&& 1) = 1 then (some 1) else (some 0))
set_option maxHeartbeats 4000000 in
set_option maxRecDepth 100000 in
theorem c_X7_hasBit (l : Launch) (D : va_G) (cI cZ : ClassId) (v0 : Int32) (v1 : Int32) {res : Int32} (h : m_X7_hasBit v0 v1 = some res) : CT l yX7_hasBit wsX7_hasBit ({ frames := 0, cells := 0, slots := 0, locals := 0 } : Room) D cI cZ [.int v0, .int v1] [] (QI D [] (fun (r : Int32) (_ : Unit) => r = res) (fun (u : Unit) => [])) 0 0 := by
  have h : (if v1 < 0 then (some 0) else (if (((v0 : Int32) >>> ((v1 : Int32) &&& 31)) &&& 1) = 1 then (some 1) else (some 0)) : Option Int32) = some res := h
  refine ct_entry (cc := cX7_hasBit) (nl := 2) (ret := (some .boolean)) (own := RX7) (lv0 := [(0, .int v0), (1, .int v1)]) (by decide) rfl rfl (Nat.le_of_ble_eq_true rfl) rfl ?_
  intro p e s m args below meth c A Q hA hQ hr hnm B
  refine ww_iload_n B dX7_hasBit_0 1 rfl ?_
  refine ww_if_lt B 17 dX7_hasBit_1 (by decide) (fun c_1 => ?_) (fun c_1 => ?_)
  · replace h := og_t c_1 h
    refine ww_iconst B dX7_hasBit_17 (v := 0) (by decide) ?_
    exact ww_zret B hA hQ hr (Or.inl rfl) dX7_hasBit_18 () [] rfl (by decide) (og_s h).symm
  · replace h := og_f c_1 h
    refine ww_iload_n B dX7_hasBit_4 0 rfl ?_
    refine ww_iload_n B dX7_hasBit_5 1 rfl ?_
    refine ww_ishr B dX7_hasBit_6 ?_
    refine ww_iconst B dX7_hasBit_7 (v := 1) (by decide) ?_
    refine ww_iand B dX7_hasBit_8 ?_
    refine ww_iconst B dX7_hasBit_9 (v := 1) (by decide) ?_
    refine ww_icmp_ne B 17 dX7_hasBit_10 (by decide) (fun c_10 => ?_) (fun c_10 => ?_)
    · replace h := og_f c_10 h
      refine ww_iconst B dX7_hasBit_17 (v := 0) (by decide) ?_
      exact ww_zret B hA hQ hr (Or.inl rfl) dX7_hasBit_18 () [] rfl (by decide) (og_s h).symm
    · replace h := og_t c_10 h
      refine ww_iconst B dX7_hasBit_13 (v := 1) (by decide) ?_
      refine ww_goto B 18 dX7_hasBit_14 (by decide) ?_
      exact ww_zret B hA hQ hr (Or.inr rfl) dX7_hasBit_18 () [] rfl (by decide) (og_s h).symm
noncomputable def m_X7_put (N_r0 : Nat) (f_r0 : (Nat → Int32)) (v1 : Int32) (v2 : Int32) : Option ((Nat → Int32)) := if v1 < 0 then (some f_r0) else (if (Int32.ofNat N_r0) ≤ v1 then (some f_r0) else (ogi v1 N_r0 (some (upd f_r0 (Int32.toNatClampNeg v1) v2))))
set_option maxHeartbeats 4000000 in
set_option maxRecDepth 100000 in
theorem c_X7_put (l : Launch) (D : va_G) (cI cZ : ClassId) (a_r0 : Nat) (N_r0 : Nat) (f_r0 : (Nat → Int32)) (v1 : Int32) (v2 : Int32) {res : ((Nat → Int32))} (h : m_X7_put N_r0 f_r0 v1 v2 = some res) : CT l yX7_put wsX7_put ({ frames := 0, cells := 0, slots := 0, locals := 0 } : Room) D cI cZ [.ref a_r0, .int v1, .int v2] [(a_r0, .inl (cI, N_r0, .inl f_r0))] (QV D [(a_r0, .inl (cI, N_r0, .inl f_r0))] (fun (u : (Nat → Int32)) => u = res) (fun (u : (Nat → Int32)) => [(a_r0, .inl (cI, N_r0, .inl u))])) 0 0 := by
  have h : (if v1 < 0 then (some f_r0) else (if (Int32.ofNat N_r0) ≤ v1 then (some f_r0) else (ogi v1 N_r0 (some (upd f_r0 (Int32.toNatClampNeg v1) v2)))) : Option ((Nat → Int32))) = some res := h
  refine ct_entry (cc := cX7_put) (nl := 3) (ret := none) (own := RX7) (lv0 := [(0, .ref a_r0), (1, .int v1), (2, .int v2)]) (by decide) rfl rfl (Nat.le_of_ble_eq_true rfl) rfl ?_
  intro p e s m args below meth c A Q hA hQ hr hnm B
  refine ww_iload_n B dX7_put_0 1 rfl ?_
  refine ww_if_lt B 14 dX7_put_1 (by decide) (fun c_1 => ?_) (fun c_1 => ?_)
  · replace h := og_t c_1 h
    exact ww_vret B hA hQ hr dX7_put_14 f_r0 [0] rfl (by decide) (og_s h).symm
  · replace h := og_f c_1 h
    refine ww_iload_n B dX7_put_4 1 rfl ?_
    refine ww_aload_n B dX7_put_5 0 rfl ?_
    refine ww_alen B 0 rfl (v := (Int32.ofNat N_r0)) rfl dX7_put_6 ?_
    refine ww_icmp_ge B 14 dX7_put_7 (by decide) (fun c_7 => ?_) (fun c_7 => ?_)
    · replace h := og_t c_7 h
      exact ww_vret B hA hQ hr dX7_put_14 f_r0 [0] rfl (by decide) (og_s h).symm
    · replace h := og_f c_7 h
      refine ww_aload_n B dX7_put_10 0 rfl ?_
      refine ww_iload_n B dX7_put_11 1 rfl ?_
      refine ww_iload_n B dX7_put_12 2 rfl ?_
      obtain ⟨i_13, h⟩ := og_i h
      refine ww_iast B 0 rfl i_13 dX7_put_13 (ws' := [(a_r0, .inl (cI, N_r0, .inl (upd f_r0 (Int32.toNatClampNeg v1) v2)))]) rfl ?_
      exact ww_vret B hA hQ hr dX7_put_14 (upd f_r0 (Int32.toNatClampNeg v1) v2) [0] rfl (by decide) (og_s h).symm
noncomputable def m_X7_isName (v0 : Int32) : Option Int32 := if v0 < 0 then (some 0) else (if 5 ≤ v0 then (some 0) else (some 1))
set_option maxHeartbeats 4000000 in
set_option maxRecDepth 100000 in
theorem c_X7_isName (l : Launch) (D : va_G) (cI cZ : ClassId) (v0 : Int32) {res : Int32} (h : m_X7_isName v0 = some res) : CT l yX7_isName wsX7_isName ({ frames := 0, cells := 0, slots := 0, locals := 0 } : Room) D cI cZ [.int v0] [] (QI D [] (fun (r : Int32) (_ : Unit) => r = res) (fun (u : Unit) => [])) 0 0 := by
  have h : (if v0 < 0 then (some 0) else (if 5 ≤ v0 then (some 0) else (some 1)) : Option Int32) = some res := h
  refine ct_entry (cc := cX7_isName) (nl := 1) (ret := (some .boolean)) (own := RX7) (lv0 := [(0, .int v0)]) (by decide) rfl rfl (Nat.le_of_ble_eq_true rfl) rfl ?_
  intro p e s m args below meth c A Q hA hQ hr hnm B
  refine ww_iload_n B dX7_isName_0 0 rfl ?_
  refine ww_if_lt B 13 dX7_isName_1 (by decide) (fun c_1 => ?_) (fun c_1 => ?_)
  · replace h := og_t c_1 h
    refine ww_iconst B dX7_isName_13 (v := 0) (by decide) ?_
    exact ww_zret B hA hQ hr (Or.inl rfl) dX7_isName_14 () [] rfl (by decide) (og_s h).symm
  · replace h := og_f c_1 h
    refine ww_iload_n B dX7_isName_4 0 rfl ?_
    refine ww_iconst B dX7_isName_5 (v := 5) (by decide) ?_
    refine ww_icmp_ge B 13 dX7_isName_6 (by decide) (fun c_6 => ?_) (fun c_6 => ?_)
    · replace h := og_t c_6 h
      refine ww_iconst B dX7_isName_13 (v := 0) (by decide) ?_
      exact ww_zret B hA hQ hr (Or.inl rfl) dX7_isName_14 () [] rfl (by decide) (og_s h).symm
    · replace h := og_f c_6 h
      refine ww_iconst B dX7_isName_9 (v := 1) (by decide) ?_
      refine ww_goto B 14 dX7_isName_10 (by decide) ?_
      exact ww_zret B hA hQ hr (Or.inr rfl) dX7_isName_14 () [] rfl (by decide) (og_s h).symm
noncomputable def m_X7_copyRow_2b (k2 : Int32 → (Nat → Int32) → Option ((Nat → Int32))) (N_r0 : Nat) (N_r1 : Nat) (f_r0 : (Nat → Int32)) (v2 : Int32) (f_r1 : (Nat → Int32)) : Option ((Nat → Int32)) := if (Int32.ofNat N_r0) ≤ v2 then (some f_r1) else (if (Int32.ofNat N_r1) ≤ v2 then (some f_r1) else (ogi v2 N_r0 (ogi v2 N_r1 (ogl (v2 + 1) (fun (v2_20 : Int32) => (k2 v2_20 (upd f_r1 (Int32.toNatClampNeg v2) (f_r0 (Int32.toNatClampNeg v2)))))))))
noncomputable def m_X7_copyRow_2 (N_r0 : Nat) (N_r1 : Nat) (f_r0 : (Nat → Int32)) (fuel : Nat) : Int32 → (Nat → Int32) → Option ((Nat → Int32)) := Nat.rec (fun _ _ => none) (fun _ k2 => m_X7_copyRow_2b k2 N_r0 N_r1 f_r0) fuel
noncomputable def m_X7_copyRow (N_r0 : Nat) (N_r1 : Nat) (f_r0 : (Nat → Int32)) (f_r1 : (Nat → Int32)) : Option ((Nat → Int32)) := (m_X7_copyRow_2 N_r0 N_r1 f_r0 1000000 0 f_r1)
set_option maxHeartbeats 4000000 in
set_option maxRecDepth 100000 in
theorem c_X7_copyRow (l : Launch) (D : va_G) (cI cZ : ClassId) (a_r0 a_r1 : Nat) (N_r0 : Nat) (N_r1 : Nat) (f_r0 : (Nat → Int32)) (f_r1 : (Nat → Int32)) {res : ((Nat → Int32))} (h : m_X7_copyRow N_r0 N_r1 f_r0 f_r1 = some res) : CT l yX7_copyRow wsX7_copyRow ({ frames := 0, cells := 0, slots := 0, locals := 0 } : Room) D cI cZ [.ref a_r0, .ref a_r1] [(a_r0, .inl (cI, N_r0, .inl f_r0)), (a_r1, .inl (cI, N_r1, .inl f_r1))] (QV D [(a_r0, .inl (cI, N_r0, .inl f_r0)), (a_r1, .inl (cI, N_r1, .inl f_r1))] (fun (u : (Nat → Int32)) => u = res) (fun (u : (Nat → Int32)) => [(a_r0, .inl (cI, N_r0, .inl f_r0)), (a_r1, .inl (cI, N_r1, .inl u))])) 0 0 := by
  have h : ((m_X7_copyRow_2 N_r0 N_r1 f_r0 1000000 0 f_r1) : Option ((Nat → Int32))) = some res := h
  refine ct_entry (cc := cX7_copyRow) (nl := 3) (ret := none) (own := RX7) (lv0 := [(0, .ref a_r0), (1, .ref a_r1)]) (by decide) rfl rfl (Nat.le_of_ble_eq_true rfl) rfl ?_
  intro p e s m args below meth c A Q hA hQ hr hnm B
  have cut_2 : ∀ (fuel : Nat) (v2 : Int32) (f_r1 : (Nat → Int32)), m_X7_copyRow_2 N_r0 N_r1 f_r0 fuel v2 f_r1 = some res → WW p l e (headSpec wsX7_copyRow ({ frames := 0, cells := 0, slots := 0, locals := 0 } : Room)).room s m args below meth c D A 3 0 0 Q [(a_r0, .inl (cI, N_r0, .inl f_r0)), (a_r1, .inl (cI, N_r1, .inl f_r1))] [(0, .ref a_r0), (1, .ref a_r1), (2, .int v2)] [] 2 := by
    intro fuel_2
    induction fuel_2 with
    | zero => intro v2 f_r1 h; exact og_0 h
    | succ fuel_2 ih_2 =>
      intro v2 f_r1 h
      replace h : (if (Int32.ofNat N_r0) ≤ v2 then (some f_r1) else (if (Int32.ofNat N_r1) ≤ v2 then (some f_r1) else (ogi v2 N_r0 (ogi v2 N_r1 (ogl (v2 + 1) (fun (v2_20 : Int32) => ((m_X7_copyRow_2 N_r0 N_r1 f_r0 fuel_2) v2_20 (upd f_r1 (Int32.toNatClampNeg v2) (f_r0 (Int32.toNatClampNeg v2))))))))) : Option ((Nat → Int32))) = some res := h
      refine ww_iload_n B dX7_copyRow_2 2 rfl ?_
      refine ww_aload_n B dX7_copyRow_3 0 rfl ?_
      refine ww_alen B 0 rfl (v := (Int32.ofNat N_r0)) rfl dX7_copyRow_4 ?_
      refine ww_icmp_ge B 26 dX7_copyRow_5 (by decide) (fun c_5 => ?_) (fun c_5 => ?_)
      · replace h := og_t c_5 h
        exact ww_vret B hA hQ hr dX7_copyRow_26 f_r1 [0, 1] rfl (by decide) (og_s h).symm
      · replace h := og_f c_5 h
        refine ww_iload_n B dX7_copyRow_8 2 rfl ?_
        refine ww_aload_n B dX7_copyRow_9 1 rfl ?_
        refine ww_alen B 1 rfl (v := (Int32.ofNat N_r1)) rfl dX7_copyRow_10 ?_
        refine ww_icmp_ge B 26 dX7_copyRow_11 (by decide) (fun c_11 => ?_) (fun c_11 => ?_)
        · replace h := og_t c_11 h
          exact ww_vret B hA hQ hr dX7_copyRow_26 f_r1 [0, 1] rfl (by decide) (og_s h).symm
        · replace h := og_f c_11 h
          refine ww_aload_n B dX7_copyRow_14 1 rfl ?_
          refine ww_iload_n B dX7_copyRow_15 2 rfl ?_
          refine ww_aload_n B dX7_copyRow_16 0 rfl ?_
          refine ww_iload_n B dX7_copyRow_17 2 rfl ?_
          obtain ⟨i_18, h⟩ := og_i h
          refine ww_iald B 0 rfl i_18 dX7_copyRow_18 ?_
          obtain ⟨i_19, h⟩ := og_i h
          refine ww_iast B 1 rfl i_19 dX7_copyRow_19 (ws' := [(a_r0, .inl (cI, N_r0, .inl f_r0)), (a_r1, .inl (cI, N_r1, .inl (upd f_r1 (Int32.toNatClampNeg v2) (f_r0 (Int32.toNatClampNeg v2)))))]) rfl ?_
          obtain ⟨v2_20, ev2_20⟩ : ∃ y : Int32, y = (v2 + 1) := ⟨_, rfl⟩
          refine ww_iinc B dX7_copyRow_20 2 rfl (v := v2_20) (by rw [ev2_20]; rfl) (by decide) (lv' := [(2, .int v2_20), (0, .ref a_r0), (1, .ref a_r1)]) rfl ?_
          replace h := og_l ev2_20 h
          refine ww_goto B 2 dX7_copyRow_23 (by decide) ?_
          refine ww_lsel (lv' := [(0, .ref a_r0), (1, .ref a_r1), (2, .int v2_20)]) [1, 2, 0] rfl ?_
          exact ih_2 _ _ h
  refine ww_iconst B dX7_copyRow_0 (v := 0) (by decide) ?_
  refine ww_istore_n B dX7_copyRow_1 (lv' := [(2, .int 0), (0, .ref a_r0), (1, .ref a_r1)]) (by decide) rfl ?_
  refine ww_lsel (lv' := [(0, .ref a_r0), (1, .ref a_r1), (2, .int 0)]) [1, 2, 0] rfl ?_
  exact cut_2 _ _ _ h
noncomputable def m_X7_isWithin (v0 : Int32) (v1 : Int32) (v2 : Int32) : Option Int32 := if v0 < v1 then (some 0) else (if v2 < v0 then (some 0) else (some 1))
set_option maxHeartbeats 4000000 in
set_option maxRecDepth 100000 in
theorem c_X7_isWithin (l : Launch) (D : va_G) (cI cZ : ClassId) (v0 : Int32) (v1 : Int32) (v2 : Int32) {res : Int32} (h : m_X7_isWithin v0 v1 v2 = some res) : CT l yX7_isWithin wsX7_isWithin ({ frames := 0, cells := 0, slots := 0, locals := 0 } : Room) D cI cZ [.int v0, .int v1, .int v2] [] (QI D [] (fun (r : Int32) (_ : Unit) => r = res) (fun (u : Unit) => [])) 0 0 := by
  have h : (if v0 < v1 then (some 0) else (if v2 < v0 then (some 0) else (some 1)) : Option Int32) = some res := h
  refine ct_entry (cc := cX7_isWithin) (nl := 3) (ret := (some .boolean)) (own := RX7) (lv0 := [(0, .int v0), (1, .int v1), (2, .int v2)]) (by decide) rfl rfl (Nat.le_of_ble_eq_true rfl) rfl ?_
  intro p e s m args below meth c A Q hA hQ hr hnm B
  refine ww_iload_n B dX7_isWithin_0 0 rfl ?_
  refine ww_iload_n B dX7_isWithin_1 1 rfl ?_
  refine ww_icmp_lt B 14 dX7_isWithin_2 (by decide) (fun c_2 => ?_) (fun c_2 => ?_)
  · replace h := og_t c_2 h
    refine ww_iconst B dX7_isWithin_14 (v := 0) (by decide) ?_
    exact ww_zret B hA hQ hr (Or.inl rfl) dX7_isWithin_15 () [] rfl (by decide) (og_s h).symm
  · replace h := og_f c_2 h
    refine ww_iload_n B dX7_isWithin_5 0 rfl ?_
    refine ww_iload_n B dX7_isWithin_6 2 rfl ?_
    refine ww_icmp_gt B 14 dX7_isWithin_7 (by decide) (fun c_7 => ?_) (fun c_7 => ?_)
    · replace h := og_t c_7 h
      refine ww_iconst B dX7_isWithin_14 (v := 0) (by decide) ?_
      exact ww_zret B hA hQ hr (Or.inl rfl) dX7_isWithin_15 () [] rfl (by decide) (og_s h).symm
    · replace h := og_f c_7 h
      refine ww_iconst B dX7_isWithin_10 (v := 1) (by decide) ?_
      refine ww_goto B 15 dX7_isWithin_11 (by decide) ?_
      exact ww_zret B hA hQ hr (Or.inr rfl) dX7_isWithin_15 () [] rfl (by decide) (og_s h).symm
noncomputable def m_X7_areBits (v0 : Int32) (v1 : Int32) : Option Int32 := ogb (m_X7_isWithin v0 0 63) (fun q_4 => if q_4 = 0 then (some 0) else (ogb (m_X7_isWithin v1 0 31) (fun q_14 => if q_14 = 0 then (some 0) else (some 1))))
set_option maxHeartbeats 4000000 in
set_option maxRecDepth 100000 in
theorem c_X7_areBits (l : Launch) (D : va_G) (cI cZ : ClassId) (v0 : Int32) (v1 : Int32) {res : Int32} (h : m_X7_areBits v0 v1 = some res) : CT l yX7_areBits wsX7_areBits ({ frames := 1, cells := 0, slots := 0, locals := 22 } : Room) D cI cZ [.int v0, .int v1] [] (QI D [] (fun (r : Int32) (_ : Unit) => r = res) (fun (u : Unit) => [])) 0 0 := by
  have h : (ogb (m_X7_isWithin v0 0 63) (fun q_4 => if q_4 = 0 then (some 0) else (ogb (m_X7_isWithin v1 0 31) (fun q_14 => if q_14 = 0 then (some 0) else (some 1)))) : Option Int32) = some res := h
  refine ct_entry (cc := cX7_areBits) (nl := 2) (ret := (some .boolean)) (own := RX7) (lv0 := [(0, .int v0), (1, .int v1)]) (by decide) rfl rfl (Nat.le_of_ble_eq_true rfl) rfl ?_
  intro p e s m args below meth c A Q hA hQ hr hnm B
  refine ww_iload_n B dX7_areBits_0 0 rfl ?_
  refine ww_iconst B dX7_areBits_1 (v := 0) (by decide) ?_
  refine ww_bipush B dX7_areBits_2 (v := 63) (by decide) ?_
  obtain ⟨q_4, hq_4, h⟩ := og_b h
  refine ww_ci0 B (k' := 0) (n' := 0) rfl rfl [] [] (wr := []) (st := []) rfl rfl (by decide) (rr_S B (c_X7_isWithin l D cI cZ v0 0 63 hq_4) gX7_areBits_X7_isWithin rfl rfl rfl (N := 3) rfl (by decide +kernel) ⟨Nat.le_of_ble_eq_true rfl, Nat.le_of_ble_eq_true rfl⟩ rfl dX7_areBits_4 (Nat.le_of_ble_eq_true rfl) ⟨Nat.le_of_ble_eq_true rfl, Nat.le_of_ble_eq_true rfl⟩) (ws' := []) rfl ?_
  refine ww_if_eq B 24 dX7_areBits_7 (by decide) (fun c_7 => ?_) (fun c_7 => ?_)
  · replace h := og_t c_7 h
    refine ww_iconst B dX7_areBits_24 (v := 0) (by decide) ?_
    exact ww_zret B hA hQ hr (Or.inl rfl) dX7_areBits_25 () [] rfl (by decide) (og_s h).symm
  · replace h := og_f c_7 h
    refine ww_iload_n B dX7_areBits_10 1 rfl ?_
    refine ww_iconst B dX7_areBits_11 (v := 0) (by decide) ?_
    refine ww_bipush B dX7_areBits_12 (v := 31) (by decide) ?_
    obtain ⟨q_14, hq_14, h⟩ := og_b h
    refine ww_ci0 B (k' := 0) (n' := 0) rfl rfl [] [] (wr := []) (st := []) rfl rfl (by decide) (rr_S B (c_X7_isWithin l D cI cZ v1 0 31 hq_14) gX7_areBits_X7_isWithin rfl rfl rfl (N := 3) rfl (by decide +kernel) ⟨Nat.le_of_ble_eq_true rfl, Nat.le_of_ble_eq_true rfl⟩ rfl dX7_areBits_14 (Nat.le_of_ble_eq_true rfl) ⟨Nat.le_of_ble_eq_true rfl, Nat.le_of_ble_eq_true rfl⟩) (ws' := []) rfl ?_
    refine ww_if_eq B 24 dX7_areBits_17 (by decide) (fun c_17 => ?_) (fun c_17 => ?_)
    · replace h := og_t c_17 h
      refine ww_iconst B dX7_areBits_24 (v := 0) (by decide) ?_
      exact ww_zret B hA hQ hr (Or.inl rfl) dX7_areBits_25 () [] rfl (by decide) (og_s h).symm
    · replace h := og_f c_17 h
      refine ww_iconst B dX7_areBits_20 (v := 1) (by decide) ?_
      refine ww_goto B 25 dX7_areBits_21 (by decide) ?_
      exact ww_zret B hA hQ hr (Or.inr rfl) dX7_areBits_25 () [] rfl (by decide) (og_s h).symm
noncomputable def m_X7_commonDivisor_21 (k2 : Int32 → Int32 → Int32 → Option Int32) (v0 : Int32) (v1 : Int32) (v2 : Int32) : Option Int32 := ogl (v2 + (-1)) (fun (v2_21 : Int32) => (k2 v0 v1 v2_21))
noncomputable def m_X7_commonDivisor_2b (k2 : Int32 → Int32 → Int32 → Option Int32) (v0 : Int32) (v1 : Int32) (v2 : Int32) : Option Int32 := if v2 ≤ 1 then (some 1) else (ogn (v2 = 0) (if (v0 - v0 / v2 * v2) = 0 then (ogn (v2 = 0) (if (v1 - v1 / v2 * v2) = 0 then (some v2) else ((m_X7_commonDivisor_21 k2 v0 v1 v2)))) else ((m_X7_commonDivisor_21 k2 v0 v1 v2))))
noncomputable def m_X7_commonDivisor_2 (fuel : Nat) : Int32 → Int32 → Int32 → Option Int32 := Nat.rec (fun _ _ _ => none) (fun _ k2 => m_X7_commonDivisor_2b k2) fuel
noncomputable def m_X7_commonDivisor (v0 : Int32) (v1 : Int32) : Option Int32 := (m_X7_commonDivisor_2 1000000 v0 v1 v1)
set_option maxHeartbeats 4000000 in
set_option maxRecDepth 100000 in
theorem c_X7_commonDivisor (l : Launch) (D : va_G) (cI cZ : ClassId) (v0 : Int32) (v1 : Int32) {res : Int32} (h : m_X7_commonDivisor v0 v1 = some res) : CT l yX7_commonDivisor wsX7_commonDivisor ({ frames := 0, cells := 0, slots := 0, locals := 0 } : Room) D cI cZ [.int v0, .int v1] [] (QI D [] (fun (r : Int32) (_ : Unit) => r = res) (fun (u : Unit) => [])) 0 0 := by
  have h : ((m_X7_commonDivisor_2 1000000 v0 v1 v1) : Option Int32) = some res := h
  refine ct_entry (cc := cX7_commonDivisor) (nl := 3) (ret := (some .int)) (own := RX7) (lv0 := [(0, .int v0), (1, .int v1)]) (by decide) rfl rfl (Nat.le_of_ble_eq_true rfl) rfl ?_
  intro p e s m args below meth c A Q hA hQ hr hnm B
  have cut_2 : ∀ (fuel : Nat) (v0 : Int32) (v1 : Int32) (v2 : Int32), m_X7_commonDivisor_2 fuel v0 v1 v2 = some res → WW p l e (headSpec wsX7_commonDivisor ({ frames := 0, cells := 0, slots := 0, locals := 0 } : Room)).room s m args below meth c D A 3 0 0 Q [] [(0, .int v0), (1, .int v1), (2, .int v2)] [] 2 := by
    intro fuel_2
    induction fuel_2 with
    | zero => intro v0 v1 v2 h; exact og_0 h
    | succ fuel_2 ih_2 =>
      have cut_21 : ∀ (v0 : Int32) (v1 : Int32) (v2 : Int32), m_X7_commonDivisor_21 (m_X7_commonDivisor_2 fuel_2) v0 v1 v2 = some res → WW p l e (headSpec wsX7_commonDivisor ({ frames := 0, cells := 0, slots := 0, locals := 0 } : Room)).room s m args below meth c D A 3 0 0 Q [] [(0, .int v0), (1, .int v1), (2, .int v2)] [] 21 := by
        intro v0 v1 v2 h
        replace h : (ogl (v2 + (-1)) (fun (v2_21 : Int32) => ((m_X7_commonDivisor_2 fuel_2) v0 v1 v2_21)) : Option Int32) = some res := h
        obtain ⟨v2_21, ev2_21⟩ : ∃ y : Int32, y = (v2 + (-1)) := ⟨_, rfl⟩
        refine ww_iinc B dX7_commonDivisor_21 2 rfl (v := v2_21) (by rw [ev2_21]; rfl) (by decide) (lv' := [(2, .int v2_21), (0, .int v0), (1, .int v1)]) rfl ?_
        replace h := og_l ev2_21 h
        refine ww_goto B 2 dX7_commonDivisor_24 (by decide) ?_
        refine ww_lsel (lv' := [(0, .int v0), (1, .int v1), (2, .int v2_21)]) [1, 2, 0] rfl ?_
        exact ih_2 _ _ _ h
      intro v0 v1 v2 h
      replace h : (if v2 ≤ 1 then (some 1) else (ogn (v2 = 0) (if (v0 - v0 / v2 * v2) = 0 then (ogn (v2 = 0) (if (v1 - v1 / v2 * v2) = 0 then (some v2) else ((m_X7_commonDivisor_21 (m_X7_commonDivisor_2 fuel_2) v0 v1 v2)))) else ((m_X7_commonDivisor_21 (m_X7_commonDivisor_2 fuel_2) v0 v1 v2)))) : Option Int32) = some res := h
      refine ww_iload_n B dX7_commonDivisor_2 2 rfl ?_
      refine ww_iconst B dX7_commonDivisor_3 (v := 1) (by decide) ?_
      refine ww_icmp_le B 27 dX7_commonDivisor_4 (by decide) (fun c_4 => ?_) (fun c_4 => ?_)
      · replace h := og_t c_4 h
        refine ww_iconst B dX7_commonDivisor_27 (v := 1) (by decide) ?_
        exact ww_iret B hA hQ hr dX7_commonDivisor_28 () [] rfl (by decide) (og_s h).symm
      · replace h := og_f c_4 h
        refine ww_iload_n B dX7_commonDivisor_7 0 rfl ?_
        refine ww_iload_n B dX7_commonDivisor_8 2 rfl ?_
        obtain ⟨z_9, h⟩ := og_n h
        refine ww_irem B dX7_commonDivisor_9 z_9 ?_
        refine ww_if_ne B 21 dX7_commonDivisor_10 (by decide) (fun c_10 => ?_) (fun c_10 => ?_)
        · replace h := og_f c_10 h
          exact cut_21 _ _ _ h
        · replace h := og_t c_10 h
          refine ww_iload_n B dX7_commonDivisor_13 1 rfl ?_
          refine ww_iload_n B dX7_commonDivisor_14 2 rfl ?_
          obtain ⟨z_15, h⟩ := og_n h
          refine ww_irem B dX7_commonDivisor_15 z_15 ?_
          refine ww_if_ne B 21 dX7_commonDivisor_16 (by decide) (fun c_16 => ?_) (fun c_16 => ?_)
          · replace h := og_f c_16 h
            exact cut_21 _ _ _ h
          · replace h := og_t c_16 h
            refine ww_iload_n B dX7_commonDivisor_19 2 rfl ?_
            exact ww_iret B hA hQ hr dX7_commonDivisor_20 () [] rfl (by decide) (og_s h).symm
  refine ww_iload_n B dX7_commonDivisor_0 1 rfl ?_
  refine ww_istore_n B dX7_commonDivisor_1 (lv' := [(2, .int v1), (0, .int v0), (1, .int v1)]) (by decide) rfl ?_
  refine ww_lsel (lv' := [(0, .int v0), (1, .int v1), (2, .int v1)]) [1, 2, 0] rfl ?_
  exact cut_2 _ _ _ _ h
noncomputable def m_X7_power_5b (k5 : Int64 → Int32 → Int64 → Int32 → Option Int64) (v0 : Int64) (v2 : Int32) (v3 : Int64) (v5 : Int32) : Option Int64 := if v2 ≤ v5 then (some v3) else (ogl (v3 * v0) (fun (v3_14 : Int64) => ogl (v5 + 1) (fun (v5_15 : Int32) => (k5 v0 v2 v3_14 v5_15))))
noncomputable def m_X7_power_5 (fuel : Nat) : Int64 → Int32 → Int64 → Int32 → Option Int64 := Nat.rec (fun _ _ _ _ => none) (fun _ k5 => m_X7_power_5b k5) fuel
noncomputable def m_X7_power (v0 : Int64) (v2 : Int32) : Option Int64 := (m_X7_power_5 1000000 v0 v2 1 0)
set_option maxHeartbeats 4000000 in
set_option maxRecDepth 100000 in
theorem c_X7_power (l : Launch) (D : va_G) (cI cZ : ClassId) (v0 : Int64) (v2 : Int32) {res : Int64} (h : m_X7_power v0 v2 = some res) : CT l yX7_power wsX7_power ({ frames := 0, cells := 0, slots := 0, locals := 0 } : Room) D cI cZ [.long v0, .int v2] [] (QL D [] (fun (r : Int64) (_ : Unit) => r = res) (fun (u : Unit) => [])) 0 0 := by
  have h : ((m_X7_power_5 1000000 v0 v2 1 0) : Option Int64) = some res := h
  refine ct_entry (cc := cX7_power) (nl := 6) (ret := (some .long)) (own := RX7) (lv0 := [(0, .long v0), (2, .int v2)]) (by decide) rfl rfl (Nat.le_of_ble_eq_true rfl) rfl ?_
  intro p e s m args below meth c A Q hA hQ hr hnm B
  have cut_5 : ∀ (fuel : Nat) (v0 : Int64) (v2 : Int32) (v3 : Int64) (v5 : Int32), m_X7_power_5 fuel v0 v2 v3 v5 = some res → WW p l e (headSpec wsX7_power ({ frames := 0, cells := 0, slots := 0, locals := 0 } : Room)).room s m args below meth c D A 6 0 0 Q [] [(0, .long v0), (2, .int v2), (3, .long v3), (5, .int v5)] [] 5 := by
    intro fuel_5
    induction fuel_5 with
    | zero => intro v0 v2 v3 v5 h; exact og_0 h
    | succ fuel_5 ih_5 =>
      intro v0 v2 v3 v5 h
      replace h : (if v2 ≤ v5 then (some v3) else (ogl (v3 * v0) (fun (v3_14 : Int64) => ogl (v5 + 1) (fun (v5_15 : Int32) => ((m_X7_power_5 fuel_5) v0 v2 v3_14 v5_15)))) : Option Int64) = some res := h
      refine ww_iload B dX7_power_5 3 rfl ?_
      refine ww_iload_n B dX7_power_7 1 rfl ?_
      refine ww_icmp_ge B 21 dX7_power_8 (by decide) (fun c_8 => ?_) (fun c_8 => ?_)
      · replace h := og_t c_8 h
        refine ww_lload_n B dX7_power_21 2 rfl ?_
        exact ww_lret B hA hQ hr dX7_power_22 () [] rfl (by decide) (og_s h).symm
      · replace h := og_f c_8 h
        refine ww_lload_n B dX7_power_11 2 rfl ?_
        refine ww_lload_n B dX7_power_12 0 rfl ?_
        refine ww_lmul B dX7_power_13 ?_
        refine ww_topl (fun v3_14 ev3_14 => ?_)
        replace h := og_l ev3_14 h
        refine ww_lstore_n B dX7_power_14 (lv' := [(3, .long v3_14), (0, .long v0), (2, .int v2), (5, .int v5)]) (by decide) rfl ?_
        obtain ⟨v5_15, ev5_15⟩ : ∃ y : Int32, y = (v5 + 1) := ⟨_, rfl⟩
        refine ww_iinc B dX7_power_15 3 rfl (v := v5_15) (by rw [ev5_15]; rfl) (by decide) (lv' := [(5, .int v5_15), (3, .long v3_14), (0, .long v0), (2, .int v2)]) rfl ?_
        replace h := og_l ev5_15 h
        refine ww_goto B 5 dX7_power_18 (by decide) ?_
        refine ww_lsel (lv' := [(0, .long v0), (2, .int v2), (3, .long v3_14), (5, .int v5_15)]) [2, 3, 1, 0] rfl ?_
        exact ih_5 _ _ _ _ h
  refine ww_lconst B dX7_power_0 (v := 1) (by decide) ?_
  refine ww_lstore_n B dX7_power_1 (lv' := [(3, .long 1), (0, .long v0), (2, .int v2)]) (by decide) rfl ?_
  refine ww_iconst B dX7_power_2 (v := 0) (by decide) ?_
  refine ww_istore B dX7_power_3 (lv' := [(5, .int 0), (3, .long 1), (0, .long v0), (2, .int v2)]) (by decide) rfl ?_
  refine ww_lsel (lv' := [(0, .long v0), (2, .int v2), (3, .long 1), (5, .int 0)]) [2, 3, 1, 0] rfl ?_
  exact cut_5 _ _ _ _ _ h
noncomputable def m_X7_cutUp (v0 : Int64) (v2 : Int64) : Option Int64 := if (lg_cmp v2 0) ≤ 0 then (some 0) else (ogn (v2 = 0) (some (((v0 + v2) - 1) / v2)))
set_option maxHeartbeats 4000000 in
set_option maxRecDepth 100000 in
theorem c_X7_cutUp (l : Launch) (D : va_G) (cI cZ : ClassId) (v0 : Int64) (v2 : Int64) {res : Int64} (h : m_X7_cutUp v0 v2 = some res) : CT l yX7_cutUp wsX7_cutUp ({ frames := 0, cells := 0, slots := 0, locals := 0 } : Room) D cI cZ [.long v0, .long v2] [] (QL D [] (fun (r : Int64) (_ : Unit) => r = res) (fun (u : Unit) => [])) 0 0 := by
  have h : (if (lg_cmp v2 0) ≤ 0 then (some 0) else (ogn (v2 = 0) (some (((v0 + v2) - 1) / v2))) : Option Int64) = some res := h
  refine ct_entry (cc := cX7_cutUp) (nl := 4) (ret := (some .long)) (own := RX7) (lv0 := [(0, .long v0), (2, .long v2)]) (by decide) rfl rfl (Nat.le_of_ble_eq_true rfl) rfl ?_
  intro p e s m args below meth c A Q hA hQ hr hnm B
  refine ww_lload_n B dX7_cutUp_0 1 rfl ?_
  refine ww_lconst B dX7_cutUp_1 (v := 0) (by decide) ?_
  refine ww_lcmp B dX7_cutUp_2 ?_
  refine ww_if_le B 16 dX7_cutUp_3 (by decide) (fun c_3 => ?_) (fun c_3 => ?_)
  · replace h := og_t c_3 h
    refine ww_lconst B dX7_cutUp_16 (v := 0) (by decide) ?_
    exact ww_lret B hA hQ hr dX7_cutUp_17 () [] rfl (by decide) (og_s h).symm
  · replace h := og_f c_3 h
    refine ww_lload_n B dX7_cutUp_6 0 rfl ?_
    refine ww_lload_n B dX7_cutUp_7 1 rfl ?_
    refine ww_ladd B dX7_cutUp_8 ?_
    refine ww_lconst B dX7_cutUp_9 (v := 1) (by decide) ?_
    refine ww_lsub B dX7_cutUp_10 ?_
    refine ww_lload_n B dX7_cutUp_11 1 rfl ?_
    obtain ⟨z_12, h⟩ := og_n h
    refine ww_ldiv B dX7_cutUp_12 z_12 ?_
    refine ww_goto B 17 dX7_cutUp_13 (by decide) ?_
    exact ww_lret B hA hQ hr dX7_cutUp_17 () [] rfl (by decide) (og_s h).symm
noncomputable def m_X7_holdsEachHullOnce_18b (k18 : Int32 → Int32 → Int32 → Option Int32) (v1 : Int32) (v2 : Int32) (v3 : Int32) : Option Int32 := if 6 ≤ v3 then (if v1 = 63 then (some 1) else (some 0)) else (ogl (v2 - v2 / 10 * 10) (fun (v4_28 : Int32) => ogb (m_X7_isHull v4_28) (fun q_32 => if q_32 = 0 then (some 0) else (ogl (v1 ||| ((1 : Int32) <<< ((v4_28 : Int32) &&& 31))) (fun (v1_46 : Int32) => ogl (v2 / 10) (fun (v2_51 : Int32) => ogl (v3 + 1) (fun (v3_52 : Int32) => (k18 v1_46 v2_51 v3_52))))))))
noncomputable def m_X7_holdsEachHullOnce_18 (fuel : Nat) : Int32 → Int32 → Int32 → Option Int32 := Nat.rec (fun _ _ _ => none) (fun _ k18 => m_X7_holdsEachHullOnce_18b k18) fuel
noncomputable def m_X7_holdsEachHullOnce (v0 : Int32) : Option Int32 := ogb (m_X7_isWithin v0 0 543210) (fun q_4 => if q_4 = 0 then (some 0) else ((m_X7_holdsEachHullOnce_18 1000000 0 v0 0)))
set_option maxHeartbeats 4000000 in
set_option maxRecDepth 100000 in
theorem c_X7_holdsEachHullOnce (l : Launch) (D : va_G) (cI cZ : ClassId) (v0 : Int32) {res : Int32} (h : m_X7_holdsEachHullOnce v0 = some res) : CT l yX7_holdsEachHullOnce wsX7_holdsEachHullOnce ({ frames := 1, cells := 0, slots := 0, locals := 22 } : Room) D cI cZ [.int v0] [] (QI D [] (fun (r : Int32) (_ : Unit) => r = res) (fun (u : Unit) => [])) 0 0 := by
  have h : (ogb (m_X7_isWithin v0 0 543210) (fun q_4 => if q_4 = 0 then (some 0) else ((m_X7_holdsEachHullOnce_18 1000000 0 v0 0))) : Option Int32) = some res := h
  refine ct_entry (cc := cX7_holdsEachHullOnce) (nl := 5) (ret := (some .boolean)) (own := RX7) (lv0 := [(0, .int v0)]) (by decide) rfl rfl (Nat.le_of_ble_eq_true rfl) rfl ?_
  intro p e s m args below meth c A Q hA hQ hr hnm B
  have cut_18 : ∀ (fuel : Nat) (v1 : Int32) (v2 : Int32) (v3 : Int32), m_X7_holdsEachHullOnce_18 fuel v1 v2 v3 = some res → WW p l e (headSpec wsX7_holdsEachHullOnce ({ frames := 1, cells := 0, slots := 0, locals := 22 } : Room)).room s m args below meth c D A 5 0 0 Q [] [(1, .int v1), (2, .int v2), (3, .int v3)] [] 18 := by
    intro fuel_18
    induction fuel_18 with
    | zero => intro v1 v2 v3 h; exact og_0 h
    | succ fuel_18 ih_18 =>
      intro v1 v2 v3 h
      replace h : (if 6 ≤ v3 then (if v1 = 63 then (some 1) else (some 0)) else (ogl (v2 - v2 / 10 * 10) (fun (v4_28 : Int32) => ogb (m_X7_isHull v4_28) (fun q_32 => if q_32 = 0 then (some 0) else (ogl (v1 ||| ((1 : Int32) <<< ((v4_28 : Int32) &&& 31))) (fun (v1_46 : Int32) => ogl (v2 / 10) (fun (v2_51 : Int32) => ogl (v3 + 1) (fun (v3_52 : Int32) => ((m_X7_holdsEachHullOnce_18 fuel_18) v1_46 v2_51 v3_52)))))))) : Option Int32) = some res := h
      refine ww_iload_n B dX7_holdsEachHullOnce_18 2 rfl ?_
      refine ww_bipush B dX7_holdsEachHullOnce_19 (v := 6) (by decide) ?_
      refine ww_icmp_ge B 58 dX7_holdsEachHullOnce_21 (by decide) (fun c_21 => ?_) (fun c_21 => ?_)
      · replace h := og_t c_21 h
        refine ww_iload_n B dX7_holdsEachHullOnce_58 0 rfl ?_
        refine ww_bipush B dX7_holdsEachHullOnce_59 (v := 63) (by decide) ?_
        refine ww_icmp_ne B 68 dX7_holdsEachHullOnce_61 (by decide) (fun c_61 => ?_) (fun c_61 => ?_)
        · replace h := og_f c_61 h
          refine ww_iconst B dX7_holdsEachHullOnce_68 (v := 0) (by decide) ?_
          exact ww_zret B hA hQ hr (Or.inl rfl) dX7_holdsEachHullOnce_69 () [] rfl (by decide) (og_s h).symm
        · replace h := og_t c_61 h
          refine ww_iconst B dX7_holdsEachHullOnce_64 (v := 1) (by decide) ?_
          refine ww_goto B 69 dX7_holdsEachHullOnce_65 (by decide) ?_
          exact ww_zret B hA hQ hr (Or.inr rfl) dX7_holdsEachHullOnce_69 () [] rfl (by decide) (og_s h).symm
      · replace h := og_f c_21 h
        refine ww_iload_n B dX7_holdsEachHullOnce_24 1 rfl ?_
        refine ww_bipush B dX7_holdsEachHullOnce_25 (v := 10) (by decide) ?_
        refine ww_irem B dX7_holdsEachHullOnce_27 (by decide) ?_
        refine ww_topi (fun v4_28 ev4_28 => ?_)
        replace h := og_l ev4_28 h
        refine ww_istore B dX7_holdsEachHullOnce_28 (lv' := [(4, .int v4_28), (1, .int v1), (2, .int v2), (3, .int v3)]) (by decide) rfl ?_
        refine ww_iload B dX7_holdsEachHullOnce_30 0 rfl ?_
        obtain ⟨q_32, hq_32, h⟩ := og_b h
        refine ww_ci0 B (k' := 0) (n' := 0) rfl rfl [] [] (wr := []) (st := []) rfl rfl (by decide) (rr_S B (c_X7_isHull l D cI cZ v4_28 hq_32) gX7_holdsEachHullOnce_X7_isHull rfl rfl rfl (N := 1) rfl (by decide +kernel) ⟨Nat.le_of_ble_eq_true rfl, Nat.le_of_ble_eq_true rfl⟩ rfl dX7_holdsEachHullOnce_32 (Nat.le_of_ble_eq_true rfl) ⟨Nat.le_of_ble_eq_true rfl, Nat.le_of_ble_eq_true rfl⟩) (ws' := []) rfl ?_
        refine ww_if_ne B 40 dX7_holdsEachHullOnce_35 (by decide) (fun c_35 => ?_) (fun c_35 => ?_)
        · replace h := og_f c_35 h
          refine ww_iload_n B dX7_holdsEachHullOnce_40 1 rfl ?_
          refine ww_iconst B dX7_holdsEachHullOnce_41 (v := 1) (by decide) ?_
          refine ww_iload B dX7_holdsEachHullOnce_42 0 rfl ?_
          refine ww_ishl B dX7_holdsEachHullOnce_44 ?_
          refine ww_ior B dX7_holdsEachHullOnce_45 ?_
          refine ww_topi (fun v1_46 ev1_46 => ?_)
          replace h := og_l ev1_46 h
          refine ww_istore_n B dX7_holdsEachHullOnce_46 (lv' := [(1, .int v1_46), (4, .int v4_28), (2, .int v2), (3, .int v3)]) (by decide) rfl ?_
          refine ww_iload_n B dX7_holdsEachHullOnce_47 2 rfl ?_
          refine ww_bipush B dX7_holdsEachHullOnce_48 (v := 10) (by decide) ?_
          refine ww_idiv B dX7_holdsEachHullOnce_50 (by decide) ?_
          refine ww_topi (fun v2_51 ev2_51 => ?_)
          replace h := og_l ev2_51 h
          refine ww_istore_n B dX7_holdsEachHullOnce_51 (lv' := [(2, .int v2_51), (1, .int v1_46), (4, .int v4_28), (3, .int v3)]) (by decide) rfl ?_
          obtain ⟨v3_52, ev3_52⟩ : ∃ y : Int32, y = (v3 + 1) := ⟨_, rfl⟩
          refine ww_iinc B dX7_holdsEachHullOnce_52 3 rfl (v := v3_52) (by rw [ev3_52]; rfl) (by decide) (lv' := [(3, .int v3_52), (2, .int v2_51), (1, .int v1_46), (4, .int v4_28)]) rfl ?_
          replace h := og_l ev3_52 h
          refine ww_goto B 18 dX7_holdsEachHullOnce_55 (by decide) ?_
          refine ww_lsel (lv' := [(1, .int v1_46), (2, .int v2_51), (3, .int v3_52)]) [2, 1, 0] rfl ?_
          exact ih_18 _ _ _ h
        · replace h := og_t c_35 h
          refine ww_iconst B dX7_holdsEachHullOnce_38 (v := 0) (by decide) ?_
          exact ww_zret B hA hQ hr (Or.inl rfl) dX7_holdsEachHullOnce_39 () [] rfl (by decide) (og_s h).symm
  refine ww_iload_n B dX7_holdsEachHullOnce_0 0 rfl ?_
  refine ww_iconst B dX7_holdsEachHullOnce_1 (v := 0) (by decide) ?_
  refine ww_ldc B (v := 543210) (by decide +kernel) dX7_holdsEachHullOnce_2 ?_
  obtain ⟨q_4, hq_4, h⟩ := og_b h
  refine ww_ci0 B (k' := 0) (n' := 0) rfl rfl [] [] (wr := []) (st := []) rfl rfl (by decide) (rr_S B (c_X7_isWithin l D cI cZ v0 0 543210 hq_4) gX7_holdsEachHullOnce_X7_isWithin rfl rfl rfl (N := 3) rfl (by decide +kernel) ⟨Nat.le_of_ble_eq_true rfl, Nat.le_of_ble_eq_true rfl⟩ rfl dX7_holdsEachHullOnce_4 (Nat.le_of_ble_eq_true rfl) ⟨Nat.le_of_ble_eq_true rfl, Nat.le_of_ble_eq_true rfl⟩) (ws' := []) rfl ?_
  refine ww_if_ne B 12 dX7_holdsEachHullOnce_7 (by decide) (fun c_7 => ?_) (fun c_7 => ?_)
  · replace h := og_f c_7 h
    refine ww_iconst B dX7_holdsEachHullOnce_12 (v := 0) (by decide) ?_
    refine ww_istore_n B dX7_holdsEachHullOnce_13 (lv' := [(1, .int 0), (0, .int v0)]) (by decide) rfl ?_
    refine ww_iload_n B dX7_holdsEachHullOnce_14 1 rfl ?_
    refine ww_istore_n B dX7_holdsEachHullOnce_15 (lv' := [(2, .int v0), (1, .int 0), (0, .int v0)]) (by decide) rfl ?_
    refine ww_iconst B dX7_holdsEachHullOnce_16 (v := 0) (by decide) ?_
    refine ww_istore_n B dX7_holdsEachHullOnce_17 (lv' := [(3, .int 0), (2, .int v0), (1, .int 0), (0, .int v0)]) (by decide) rfl ?_
    refine ww_lsel (lv' := [(1, .int 0), (2, .int v0), (3, .int 0)]) [2, 1, 0] rfl ?_
    exact cut_18 _ _ _ _ h
  · replace h := og_t c_7 h
    refine ww_iconst B dX7_holdsEachHullOnce_10 (v := 0) (by decide) ?_
    exact ww_zret B hA hQ hr (Or.inl rfl) dX7_holdsEachHullOnce_11 () [] rfl (by decide) (og_s h).symm
noncomputable def m_X7_swap (N_r0 : Nat) (f_r0 : (Nat → Int32)) (v1 : Int32) (v2 : Int32) : Option (Int32 × ((Nat → Int32))) := ogb (m_X7_at N_r0 f_r0 v1) (fun q_2 => ogb (m_X7_put N_r0 f_r0 v1 v2) (fun q_9 => some (q_2, q_9)))
set_option maxHeartbeats 4000000 in
set_option maxRecDepth 100000 in
theorem c_X7_swap (l : Launch) (D : va_G) (cI cZ : ClassId) (a_r0 : Nat) (N_r0 : Nat) (f_r0 : (Nat → Int32)) (v1 : Int32) (v2 : Int32) {res : (Int32 × ((Nat → Int32)))} (h : m_X7_swap N_r0 f_r0 v1 v2 = some res) : CT l yX7_swap wsX7_swap ({ frames := 1, cells := 0, slots := 0, locals := 22 } : Room) D cI cZ [.ref a_r0, .int v1, .int v2] [(a_r0, .inl (cI, N_r0, .inl f_r0))] (QI D [(a_r0, .inl (cI, N_r0, .inl f_r0))] (fun (r : Int32) (u : (Nat → Int32)) => r = res.1 ∧ u = res.2) (fun (u : (Nat → Int32)) => [(a_r0, .inl (cI, N_r0, .inl u))])) 0 0 := by
  have h : (ogb (m_X7_at N_r0 f_r0 v1) (fun q_2 => ogb (m_X7_put N_r0 f_r0 v1 v2) (fun q_9 => some (q_2, q_9))) : Option (Int32 × ((Nat → Int32)))) = some res := h
  refine ct_entry (cc := cX7_swap) (nl := 4) (ret := (some .int)) (own := RX7) (lv0 := [(0, .ref a_r0), (1, .int v1), (2, .int v2)]) (by decide) rfl rfl (Nat.le_of_ble_eq_true rfl) rfl ?_
  intro p e s m args below meth c A Q hA hQ hr hnm B
  refine ww_aload_n B dX7_swap_0 0 rfl ?_
  refine ww_iload_n B dX7_swap_1 1 rfl ?_
  obtain ⟨q_2, hq_2, h⟩ := og_b h
  refine ww_ci0 B (k' := 0) (n' := 0) rfl rfl [0] [] (wr := []) (st := []) rfl rfl (by decide) (rr_S B (c_X7_at l D cI cZ a_r0 N_r0 f_r0 v1 hq_2) gX7_swap_X7_at rfl rfl rfl (N := 2) rfl (by decide +kernel) ⟨Nat.le_of_ble_eq_true rfl, Nat.le_of_ble_eq_true rfl⟩ rfl dX7_swap_2 (Nat.le_of_ble_eq_true rfl) ⟨Nat.le_of_ble_eq_true rfl, Nat.le_of_ble_eq_true rfl⟩) (ws' := [(a_r0, .inl (cI, N_r0, .inl f_r0))]) rfl ?_
  refine ww_istore_n B dX7_swap_5 (lv' := [(3, .int q_2), (0, .ref a_r0), (1, .int v1), (2, .int v2)]) (by decide) rfl ?_
  refine ww_aload_n B dX7_swap_6 1 rfl ?_
  refine ww_iload_n B dX7_swap_7 2 rfl ?_
  refine ww_iload_n B dX7_swap_8 3 rfl ?_
  obtain ⟨q_9, hq_9, h⟩ := og_b h
  refine ww_cvM B (k' := 0) (n' := 0) rfl rfl [0] [] (wr := []) (st := []) rfl rfl (by decide) (rr_S B (c_X7_put l D cI cZ a_r0 N_r0 f_r0 v1 v2 hq_9) gX7_swap_X7_put rfl rfl rfl (N := 3) rfl (by decide +kernel) ⟨Nat.le_of_ble_eq_true rfl, Nat.le_of_ble_eq_true rfl⟩ rfl dX7_swap_9 (Nat.le_of_ble_eq_true rfl) ⟨Nat.le_of_ble_eq_true rfl, Nat.le_of_ble_eq_true rfl⟩) (ws' := [(a_r0, .inl (cI, N_r0, .inl q_9))]) rfl ?_
  refine ww_iload_n B dX7_swap_12 0 rfl ?_
  exact ww_iret B hA hQ hr dX7_swap_13 q_9 [0] rfl (by decide) (og_p h)
noncomputable def m_X7_isAboutLog (v0 : Int32) : Option Int32 := if v0 = 0 then (some 1) else (ogb (m_X7_isWithin v0 10 15) (fun q_9 => if q_9 = 0 then (ogb (m_X7_isWithin v0 20 24) (fun q_20 => if q_20 = 0 then (ogb (m_X7_isWithin v0 30 34) (fun q_31 => if q_31 = 0 then (ogb (m_X7_isWithin v0 40 44) (fun q_42 => if q_42 = 0 then (some 0) else (some 1))) else (some 1))) else (some 1))) else (some 1)))
set_option maxHeartbeats 4000000 in
set_option maxRecDepth 100000 in
theorem c_X7_isAboutLog (l : Launch) (D : va_G) (cI cZ : ClassId) (v0 : Int32) {res : Int32} (h : m_X7_isAboutLog v0 = some res) : CT l yX7_isAboutLog wsX7_isAboutLog ({ frames := 1, cells := 0, slots := 0, locals := 22 } : Room) D cI cZ [.int v0] [] (QI D [] (fun (r : Int32) (_ : Unit) => r = res) (fun (u : Unit) => [])) 0 0 := by
  have h : (if v0 = 0 then (some 1) else (ogb (m_X7_isWithin v0 10 15) (fun q_9 => if q_9 = 0 then (ogb (m_X7_isWithin v0 20 24) (fun q_20 => if q_20 = 0 then (ogb (m_X7_isWithin v0 30 34) (fun q_31 => if q_31 = 0 then (ogb (m_X7_isWithin v0 40 44) (fun q_42 => if q_42 = 0 then (some 0) else (some 1))) else (some 1))) else (some 1))) else (some 1))) : Option Int32) = some res := h
  refine ct_entry (cc := cX7_isAboutLog) (nl := 1) (ret := (some .boolean)) (own := RX7) (lv0 := [(0, .int v0)]) (by decide) rfl rfl (Nat.le_of_ble_eq_true rfl) rfl ?_
  intro p e s m args below meth c A Q hA hQ hr hnm B
  refine ww_iload_n B dX7_isAboutLog_0 0 rfl ?_
  refine ww_if_eq B 48 dX7_isAboutLog_1 (by decide) (fun c_1 => ?_) (fun c_1 => ?_)
  · replace h := og_t c_1 h
    refine ww_iconst B dX7_isAboutLog_48 (v := 1) (by decide) ?_
    refine ww_goto B 53 dX7_isAboutLog_49 (by decide) ?_
    exact ww_zret B hA hQ hr (Or.inr rfl) dX7_isAboutLog_53 () [] rfl (by decide) (og_s h).symm
  · replace h := og_f c_1 h
    refine ww_iload_n B dX7_isAboutLog_4 0 rfl ?_
    refine ww_bipush B dX7_isAboutLog_5 (v := 10) (by decide) ?_
    refine ww_bipush B dX7_isAboutLog_7 (v := 15) (by decide) ?_
    obtain ⟨q_9, hq_9, h⟩ := og_b h
    refine ww_ci0 B (k' := 0) (n' := 0) rfl rfl [] [] (wr := []) (st := []) rfl rfl (by decide) (rr_S B (c_X7_isWithin l D cI cZ v0 10 15 hq_9) gX7_isAboutLog_X7_isWithin rfl rfl rfl (N := 3) rfl (by decide +kernel) ⟨Nat.le_of_ble_eq_true rfl, Nat.le_of_ble_eq_true rfl⟩ rfl dX7_isAboutLog_9 (Nat.le_of_ble_eq_true rfl) ⟨Nat.le_of_ble_eq_true rfl, Nat.le_of_ble_eq_true rfl⟩) (ws' := []) rfl ?_
    refine ww_if_ne B 48 dX7_isAboutLog_12 (by decide) (fun c_12 => ?_) (fun c_12 => ?_)
    · replace h := og_f c_12 h
      refine ww_iconst B dX7_isAboutLog_48 (v := 1) (by decide) ?_
      refine ww_goto B 53 dX7_isAboutLog_49 (by decide) ?_
      exact ww_zret B hA hQ hr (Or.inr rfl) dX7_isAboutLog_53 () [] rfl (by decide) (og_s h).symm
    · replace h := og_t c_12 h
      refine ww_iload_n B dX7_isAboutLog_15 0 rfl ?_
      refine ww_bipush B dX7_isAboutLog_16 (v := 20) (by decide) ?_
      refine ww_bipush B dX7_isAboutLog_18 (v := 24) (by decide) ?_
      obtain ⟨q_20, hq_20, h⟩ := og_b h
      refine ww_ci0 B (k' := 0) (n' := 0) rfl rfl [] [] (wr := []) (st := []) rfl rfl (by decide) (rr_S B (c_X7_isWithin l D cI cZ v0 20 24 hq_20) gX7_isAboutLog_X7_isWithin rfl rfl rfl (N := 3) rfl (by decide +kernel) ⟨Nat.le_of_ble_eq_true rfl, Nat.le_of_ble_eq_true rfl⟩ rfl dX7_isAboutLog_20 (Nat.le_of_ble_eq_true rfl) ⟨Nat.le_of_ble_eq_true rfl, Nat.le_of_ble_eq_true rfl⟩) (ws' := []) rfl ?_
      refine ww_if_ne B 48 dX7_isAboutLog_23 (by decide) (fun c_23 => ?_) (fun c_23 => ?_)
      · replace h := og_f c_23 h
        refine ww_iconst B dX7_isAboutLog_48 (v := 1) (by decide) ?_
        refine ww_goto B 53 dX7_isAboutLog_49 (by decide) ?_
        exact ww_zret B hA hQ hr (Or.inr rfl) dX7_isAboutLog_53 () [] rfl (by decide) (og_s h).symm
      · replace h := og_t c_23 h
        refine ww_iload_n B dX7_isAboutLog_26 0 rfl ?_
        refine ww_bipush B dX7_isAboutLog_27 (v := 30) (by decide) ?_
        refine ww_bipush B dX7_isAboutLog_29 (v := 34) (by decide) ?_
        obtain ⟨q_31, hq_31, h⟩ := og_b h
        refine ww_ci0 B (k' := 0) (n' := 0) rfl rfl [] [] (wr := []) (st := []) rfl rfl (by decide) (rr_S B (c_X7_isWithin l D cI cZ v0 30 34 hq_31) gX7_isAboutLog_X7_isWithin rfl rfl rfl (N := 3) rfl (by decide +kernel) ⟨Nat.le_of_ble_eq_true rfl, Nat.le_of_ble_eq_true rfl⟩ rfl dX7_isAboutLog_31 (Nat.le_of_ble_eq_true rfl) ⟨Nat.le_of_ble_eq_true rfl, Nat.le_of_ble_eq_true rfl⟩) (ws' := []) rfl ?_
        refine ww_if_ne B 48 dX7_isAboutLog_34 (by decide) (fun c_34 => ?_) (fun c_34 => ?_)
        · replace h := og_f c_34 h
          refine ww_iconst B dX7_isAboutLog_48 (v := 1) (by decide) ?_
          refine ww_goto B 53 dX7_isAboutLog_49 (by decide) ?_
          exact ww_zret B hA hQ hr (Or.inr rfl) dX7_isAboutLog_53 () [] rfl (by decide) (og_s h).symm
        · replace h := og_t c_34 h
          refine ww_iload_n B dX7_isAboutLog_37 0 rfl ?_
          refine ww_bipush B dX7_isAboutLog_38 (v := 40) (by decide) ?_
          refine ww_bipush B dX7_isAboutLog_40 (v := 44) (by decide) ?_
          obtain ⟨q_42, hq_42, h⟩ := og_b h
          refine ww_ci0 B (k' := 0) (n' := 0) rfl rfl [] [] (wr := []) (st := []) rfl rfl (by decide) (rr_S B (c_X7_isWithin l D cI cZ v0 40 44 hq_42) gX7_isAboutLog_X7_isWithin rfl rfl rfl (N := 3) rfl (by decide +kernel) ⟨Nat.le_of_ble_eq_true rfl, Nat.le_of_ble_eq_true rfl⟩ rfl dX7_isAboutLog_42 (Nat.le_of_ble_eq_true rfl) ⟨Nat.le_of_ble_eq_true rfl, Nat.le_of_ble_eq_true rfl⟩) (ws' := []) rfl ?_
          refine ww_if_eq B 52 dX7_isAboutLog_45 (by decide) (fun c_45 => ?_) (fun c_45 => ?_)
          · replace h := og_t c_45 h
            refine ww_iconst B dX7_isAboutLog_52 (v := 0) (by decide) ?_
            exact ww_zret B hA hQ hr (Or.inl rfl) dX7_isAboutLog_53 () [] rfl (by decide) (og_s h).symm
          · replace h := og_f c_45 h
            refine ww_iconst B dX7_isAboutLog_48 (v := 1) (by decide) ?_
            refine ww_goto B 53 dX7_isAboutLog_49 (by decide) ?_
            exact ww_zret B hA hQ hr (Or.inr rfl) dX7_isAboutLog_53 () [] rfl (by decide) (og_s h).symm
