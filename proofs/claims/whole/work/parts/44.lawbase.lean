/-! THE CLAIM OUT OF ONE WALK OF THE LAW'S BODY. Your part is whole_start (and what it stands on); all else here is the same for every law, but numbers. -/
def R_law : String := "LentNamesLaw"
def lw_P (b : Addr) (xs : List Int32) (args : Array Value) (s : State) : Prop := args = #[.ref b] ∧ s.IntsAt b xs ∧ xs.length ≤ 320 ∧ (Jvm.Cond.and given_1 narrow_1).before args s = true
def lw_Q (_ : Array Value) (s : State) (o : Outcome) (t : State) : Prop := o = .returned (some (.int 1)) ∧ Framed s o t [] 600000 7302250
def lw_Z (below : List Frame) (a : Array Value) (s : State) : State → Prop := fun t => ∃ o, t.status = .running ∧ Ended t below o ∧ lw_Q a s o t
/-- the law's own end, with 1 on the stack, nothing written that was there before, its room as the claim has it -/
theorem lw_ret {p : Program} {l : Launch} {e : Env} {s : State} {m : MethodId} {below : List Frame} {meth : Method} {c : Code} {b : Nat} (hx : p.tables.exec = Jvm.exec) (hb : c.code = code) (hr : meth.sig.returnType = ret) (hlocks : meth.locks = false) {pc : Nat} {H : Heap} {ls : Array Slot} (hdg : decode code pc = .ok (.ireturn, 1)) : W p l e room_1 s m #[Value.ref b] below meth c H [] 600000 7302250 (lw_Z below #[Value.ref b] s) (F0 m pc ls [.int 1]) := by
  intro T hT X
  obtain ⟨fs, hret, hrun, hended, hW, hframe⟩ := X.leave (v := some (.int 1)) (hlocks := hlocks) (fun h => by rw [hr] at h; cases h)
  have hmeth' : T.vm.method? m = some meth := X.method'
  refine ⟨T.setFrames fs, ?_, .returned (some (.int 1)), hrun, hended, rfl, ⟨_, rfl⟩, hW, hframe⟩
  jvm_step X.here [X.here.top, hx, hb, hdg, hmeth', hr, ret, narrow_b1]
  (try refine ⟨rfl, ?_⟩); (try refine ⟨rfl, ?_⟩)
  first | (intro acts; rw [hret _ acts rfl rfl rfl]) | rw [hret _ _ rfl rfl rfl]
  exact Steps.refl _
/-- what holds at the law's entry: the machine, the code, the tables' words (any of lw_tbl by 'hts w (by decide +kernel)'), the script of L ints xs at the cell b, what the Statement gives of the start (any of its parts by flat_of_before) -/
def lw_At (p : Program) (s : State) (m : MethodId) (meth : Method) (c : Code) (b L : Nat) (xs : Nat → Int32) : Prop :=
  p.tables.exec = Jvm.exec ∧ c.code = code ∧ meth.sig.returnType = ret ∧ c.maxLocals = 4 ∧ s.vm.findClass R_law = some m.cls ∧ (∀ w ∈ lw_tbl, w.before #[Value.ref b] s = true) ∧ va_X b L xs s s.heap ∧ b < s.heap.size ∧ meth.locks = false ∧ (Jvm.Cond.and given_1 narrow_1).before #[Value.ref b] s = true
section LAWROWS
variable {p : Program} {l : Launch} {e : Env} {s : State} {m : MethodId} {below : List Frame} {meth : Method} {c : Code} {D : va_G} {cI cZ : ClassId} {A : Nat → Prop} {b L : Nat} {xs : Nat → Int32} {R : Room} {args : Array Value} {cc : ByteArray} {nl k n : Nat} {own : String} {Ts : List Cond} {Q : State → Prop} {ws : va_W} {lv : List (Nat × Value)} {st : List Value} {pc : Nat}
theorem ww_sld (B : Bx p s m args meth c cc nl own Ts D cI cZ A) (hX : va_X b L xs s s.heap) (hbl : b < s.heap.size) (hbA : ¬ A b) {i : Int32} (hin : vp_in i L) (hd : decode cc pc = .ok (.iaload, 1)) (kk : WW p l e R s m args below meth c D A nl k n Q ws lv (.int (xs i.toNatClampNeg) :: st) (pc + 1)) : WW p l e R s m args below meth c D A nl k n Q ws lv (.int i :: .ref b :: st) pc := fun H locs ls hP hD hS hl => va_sld B.1 B.2.1 hX hbl hbA hS hin hd (kk H locs ls hP hD hS hl)
theorem ww_slen (B : Bx p s m args meth c cc nl own Ts D cI cZ A) (hX : va_X b L xs s s.heap) (hbl : b < s.heap.size) (hbA : ¬ A b) (hd : decode cc pc = .ok (.arraylength, 1)) (kk : WW p l e R s m args below meth c D A nl k n Q ws lv (.int (Int32.ofNat L) :: st) (pc + 1)) : WW p l e R s m args below meth c D A nl k n Q ws lv (.ref b :: st) pc := fun H locs ls hP hD hS hl => va_slen B.1 B.2.1 hX hbl hbA hS hd (kk H locs ls hP hD hS hl)
theorem ww_lawret (B : Bx p s m #[Value.ref b] meth c code 4 own Ts D cI cZ A) (hAs : ∀ q, A q → s.heap.size ≤ q) (hr : meth.sig.returnType = ret) (h1 : k ≤ 600000) (h2 : n ≤ 7302250) (hd : decode code pc = .ok (.ireturn, 1)) : WW p l e room_1 s m #[Value.ref b] below meth c D A nl k n (lw_Z below #[Value.ref b] s) ws lv [.int 1] pc := fun H locs ls hP hD hS hl => va_forget (fun q hq => hAs _ (hS.2.2 q hq)) (W.widen h1 h2 (lw_ret B.1 B.2.1 hr B.2.2.2.2.2.2.2.2 hd))
end LAWROWS
theorem law_add {i : Nat} {x : Int32} {j : Nat} (h : x = nI j) : nI i + x = nI (i + j) := by rw [h, nI_add]
theorem lg_cmp_self (r : Int64) : lg_cmp r r = 0 := by simp [lg_cmp]
theorem law_bound {L i : Nat} {v3 : Int32} (hL : L ≤ 320) (hi : i ≤ L) (ev : v3 = nI i) (c : ¬ (Int32.ofNat L - 5) < v3) : i + 5 ≤ L ∧ i + 4 < L := by
  subst ev
  have h5 : (5 : Int32) = nI 5 := by decide
  have e1 : (nI L - nI 5).toInt = (L : Int) - 5 := pk_sub_toInt (by omega) (by omega)
  have e2 : (nI i).toInt = (i : Int) := nI_toInt (by omega)
  have c2 : ¬ (nI L - nI 5) < nI i := by rw [← h5]; exact c
  rw [Int32.lt_iff_toInt_lt, e1, e2] at c2
  omega
