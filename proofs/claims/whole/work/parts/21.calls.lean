-- contracts: the start, the ends, a contract
abbrev QS : Type := Array Value → State → Outcome → State → Prop
def PC (D : va_G) (cI cZ : ClassId) (ws : va_W) (sz : Nat) (U : State) : Prop := U.heap.size = sz ∧ va_P D vwCl ws U.heap ∧ va_K D vwCl (tyIZ cI cZ) U ∧ nN U ∧ va_D (fun _ => True) ws
abbrev QB {S : Type} (D : va_G) (ws : va_W) (wn : S → va_W) (sz : Nat) : S → State → Prop := fun u t => va_P D vwCl (wn u) t.heap ∧ va_D (va_A ws sz) (wn u)
def QI {S : Type} (D : va_G) (ws : va_W) (post : Int32 → S → Prop) (wn : S → va_W) (sz : Nat) : QS := va_Qi post (QB D ws wn sz) (va_A ws sz)
def QL {S : Type} (D : va_G) (ws : va_W) (post : Int64 → S → Prop) (wn : S → va_W) (sz : Nat) : QS := va_Ql post (QB D ws wn sz) (va_A ws sz)
def QV {S : Type} (D : va_G) (ws : va_W) (post : S → Prop) (wn : S → va_W) (sz : Nat) : QS := va_Qv post (QB D ws wn sz) (va_A ws sz)
def QR {S : Type} (D : va_G) (ws : va_W) (post : Nat → S → Prop) (wn : S → va_W) (sz : Nat) : QS := va_Qr (fun _ : S => True) (fun u a t => post a u ∧ QB D ws wn sz u t) (va_A ws sz)
def CT (l : Launch) (y : MethodName) (wy : List Cond) (rm : Room) (D : va_G) (cI cZ : ClassId) (av : List Value) (ws : va_W) (Q : Nat → QS) (mc ms : Nat) : Prop :=
  ∀ sz : Nat, Met l y wy rm (va_Pc av (PC D cI cZ ws sz)) (Q sz) mc ms (va_A ws sz)
theorem blindPC {D : va_G} {cI cZ : ClassId} {ws : va_W} {sz : Nat} {av : List Value} : FrameBlind (va_Pc av (PC D cI cZ ws sz)) := fun a U g mk q => by
  obtain ⟨q0, q1, qP, qK, qN, qD⟩ := q
  exact ⟨q0, q1, qP, va_K.moved (u := U) (U := U.calling g mk a) (Vm.Alike.refl U.vm) qK, nN.same (u := U) (U := U.calling g mk a) rfl qN, qD⟩
set_option maxHeartbeats 1000000 in
theorem ct_entry {l : Launch} {y : MethodName} {wy wy' : List Cond} {rm : Room} {D : va_G} {cI cZ : ClassId} {av : List Value} {ws : va_W} {Q : Nat → QS} {mc ms : Nat} {cc : ByteArray} {nl : Nat} {ret : Option FieldType} {own : String} {lv0 : List (Nat × Value)}
    (hy : plainName y.cls = true) (hw : wy = Cond.code y cc nl ret :: wy') (hown : y.cls = own) (hsl : (lg_sl av).length ≤ nl) (hlv : lv_args 0 av = lv0)
    (body : ∀ (p : Program) (e : Env) (s : State) (m : MethodId) (args : Array Value) (below : List Frame) (meth : Method) (c : Code) (A : Nat → Prop) (Qm : State → Prop), A = va_A ws s.heap.size → Qm = MQ below (Q s.heap.size) args s mc ms (va_A ws s.heap.size) → meth.sig.returnType = ret → meth.name = y.name → Bx p s m args meth c cc nl own wy D cI cZ A →
      WW p l e (headSpec wy rm).room s m args below meth c D A nl 0 0 Qm ws lv0 [] 0) : CT l y wy rm D cI cZ av ws Q mc ms := by
  intro sz
  refine Met.ofW (cc := cc) (maxL := nl) (ret := ret) hy hw ?_
  intro p e s m args below meth c s₁ B hml hv
  obtain ⟨rfl, hsz, hP, hK, hN, hD0⟩ := hv
  subst hsz
  subst hown
  have hl := lv_entry av (n := nl) hsl
  rw [lg_entry_eq]
  rw [hlv] at hl
  exact body p e s m _ below meth c (va_A ws s.heap.size) _ rfl rfl B.returns (name_of_methodNamed B.named B.method).1 ⟨B.exec, B.bytes, hml, findClass_of_methodNamed B.named, atoms_spec (ws := wy) B.pre, hK, hN, fun q h => Or.inr h, B.notSynchronized⟩ s.heap [] _ hP hD0.self va_S.rf hl
section CALLS
variable {p : Program} {l : Launch} {e : Env} {R : Room} {s : State} {m : MethodId} {args : Array Value} {below : List Frame} {meth : Method} {c : Code} {cc : ByteArray} {nl k n : Nat} {own : String} {Ts : List Cond} {D : va_G} {cI cZ : ClassId} {A : Nat → Prop} {Q : State → Prop} {ws : va_W} {lv : List (Nat × Value)} {st : List Value} {pc : Nat}
variable {S : Type} {ws0 : va_W} {wn : S → va_W}
theorem ww_iret (B : Bx p s m args meth c cc nl own Ts D cI cZ A) {post : Int32 → S → Prop} {r : Int32} (hA : A = va_A ws0 s.heap.size) (hQ : Q = MQ below (QI D ws0 post wn s.heap.size) args s k n (va_A ws0 s.heap.size)) (hr : meth.sig.returnType = some .int) (hd : decode cc pc = .ok (.ireturn, 1)) (u : S) (is : List Nat) (hs : is.map (fun i => ws[i]?) = (wn u).map some) (hn : va_nd is = true) (hp : post r u) : WW p l e R s m args below meth c D A nl k n Q ws lv ([.int r]) pc := by
  subst hA; subst hQ
  intro H locs ls hP hD hS hl
  exact W.iret B.1 B.2.1 hr (fun t ht hW => ⟨⟨r, u, rfl, hp, by rw [ht]; exact hP.pick is hs, hD.sub is hn hs⟩, hS.F ht⟩) hS.2.2 hd B.2.2.2.2.2.2.2.2
theorem narrow_z {r : Int32} (h : r = 0 ∨ r = 1) : narrow .boolean (.int r) = .int r := by rcases h with rfl | rfl <;> rfl
theorem ww_zret (B : Bx p s m args meth c cc nl own Ts D cI cZ A) {post : Int32 → S → Prop} {r : Int32} (hA : A = va_A ws0 s.heap.size) (hQ : Q = MQ below (QI D ws0 post wn s.heap.size) args s k n (va_A ws0 s.heap.size)) (hr : meth.sig.returnType = some .boolean) (hz : r = 0 ∨ r = 1) (hd : decode cc pc = .ok (.ireturn, 1)) (u : S) (is : List Nat) (hs : is.map (fun i => ws[i]?) = (wn u).map some) (hn : va_nd is = true) (hp : post r u) : WW p l e R s m args below meth c D A nl k n Q ws lv ([.int r]) pc := by
  subst hA; subst hQ
  intro H locs ls hP hD hS hl
  exact W.zret B.1 B.2.1 hr (narrow_z hz) (fun t ht hW => ⟨⟨r, u, rfl, hp, by rw [ht]; exact hP.pick is hs, hD.sub is hn hs⟩, hS.F ht⟩) hS.2.2 hd B.2.2.2.2.2.2.2.2
theorem ww_lret (B : Bx p s m args meth c cc nl own Ts D cI cZ A) {post : Int64 → S → Prop} {r : Int64} (hA : A = va_A ws0 s.heap.size) (hQ : Q = MQ below (QL D ws0 post wn s.heap.size) args s k n (va_A ws0 s.heap.size)) (hr : meth.sig.returnType = some .long) (hd : decode cc pc = .ok (.lreturn, 1)) (u : S) (is : List Nat) (hs : is.map (fun i => ws[i]?) = (wn u).map some) (hn : va_nd is = true) (hp : post r u) : WW p l e R s m args below meth c D A nl k n Q ws lv ([.long r]) pc := by
  subst hA; subst hQ
  intro H locs ls hP hD hS hl
  exact W.lret B.1 B.2.1 hr (fun t ht hW => ⟨⟨r, u, rfl, hp, by rw [ht]; exact hP.pick is hs, hD.sub is hn hs⟩, hS.F ht⟩) hS.2.2 hd B.2.2.2.2.2.2.2.2
theorem ww_vret (B : Bx p s m args meth c cc nl own Ts D cI cZ A) {post : S → Prop} (hA : A = va_A ws0 s.heap.size) (hQ : Q = MQ below (QV D ws0 post wn s.heap.size) args s k n (va_A ws0 s.heap.size)) (hr : meth.sig.returnType = none) (hd : decode cc pc = .ok (.return_, 1)) (u : S) (is : List Nat) (hs : is.map (fun i => ws[i]?) = (wn u).map some) (hn : va_nd is = true) (hp : post u) : WW p l e R s m args below meth c D A nl k n Q ws lv ([]) pc := by
  subst hA; subst hQ
  intro H locs ls hP hD hS hl
  exact W.vret B.1 B.2.1 hr (fun t ht hW => ⟨⟨u, rfl, hp, by rw [ht]; exact hP.pick is hs, hD.sub is hn hs⟩, hS.F ht⟩) hS.2.2 hd B.2.2.2.2.2.2.2.2
theorem ww_aret (B : Bx p s m args meth c cc nl own Ts D cI cZ A) {post : Nat → S → Prop} {r : Nat} {rt : FieldType} (hrt : (∃ n, rt = .object n) ∨ ∃ t, rt = .array t) (hA : A = va_A ws0 s.heap.size) (hQ : Q = MQ below (QR D ws0 post wn s.heap.size) args s k n (va_A ws0 s.heap.size)) (hr : meth.sig.returnType = some rt) (hd : decode cc pc = .ok (.areturn, 1)) (u : S) (is : List Nat) (hs : is.map (fun i => ws[i]?) = (wn u).map some) (hn : va_nd is = true) (hp : post r u) : WW p l e R s m args below meth c D A nl k n Q ws lv ([.ref r]) pc := by
  subst hA; subst hQ
  intro H locs ls hP hD hS hl
  exact W.aret B.1 B.2.1 hr hrt (Or.inr ⟨r, rfl⟩) (fun t ht hW => ⟨⟨u, r, rfl, trivial, hp, by rw [ht]; exact hP.pick is hs, hD.sub is hn hs⟩, hS.F ht⟩) hS.2.2 hd B.2.2.2.2.2.2.2.2
variable {y : MethodName} {wy wy' : List Cond} {rm : Room} {bytes : ByteArray} {maxL mc ms index : Nat} {ret : Option FieldType} {C : String} {T : u_T} {NC ci b : Nat} {fs : List Value} {As st0 : List Value} {wc wr : va_W} {Qc : Nat → QS}
def RR (p : Program) (l : Launch) (e : Env) (R : Room) (s : State) (m : MethodId) (args : Array Value) (below : List Frame) (meth : Method) (c : Code) (D : va_G) (nl k n mc ms : Nat) (wc : va_W) (lv : List (Nat × Value)) (st0 st : List Value) (pc : Nat) (Qa : Nat → State → Outcome → State → Prop) : Prop :=
  ∀ (H : Heap) (locs : List Loc) (ls : Array Slot), va_P D vwCl wc H → va_D (fun _ => True) wc → lv_has ls nl lv → va_Run p l e R s m args below meth c H locs k n mc ms (F0 m pc ls st0) st (Qa H.size) (va_A wc H.size)
theorem preCT {H : Heap} (hK : va_K D vwCl (tyIZ cI cZ) s) (hN : nN s) (hP : va_P D vwCl wc H) (hD : va_D (fun _ => True) wc) {av : List Value} : ∀ U : State, U.heap = H → s.WarmedH U.vm → va_Pc av (PC D cI cZ wc H.size) av.toArray U := fun U hU hW => ⟨rfl, by rw [hU], by rw [hU]; exact hP, va_K.moved hW.alike hK, nN.warm hW hN, hD⟩
theorem rr_V (B : Bx p s m args meth c cc nl own Ts D cI cZ A) (hM : CT l y wy rm D cI cZ (.ref b :: As) wc Qc mc ms) (g : GoodIn Ts (wsV own index C y wy)) (hw : wy = Cond.code y bytes maxL ret :: wy') (hrc : rm.cells = mc) (hrs : rm.slots = ms) {N : Nat} (hN : As.length = N) (hdd : y.cls = C ∧ y.cls ≠ "java/lang/invoke/MethodHandle" ∧ y.cls ≠ "java/lang/invoke/VarHandle" ∧ (parseMethodDescriptor y.desc).map (fun d => d.parameters.length) = some N) (hRm : rm.frames + 1 ≤ R.frames ∧ 8 + (maxL + 11) + rm.locals ≤ R.locals) (hs0 : st0 = As.reverse ++ .ref b :: st) (hd : decode cc pc = .ok (.invokevirtual index, 3)) (qb : Nat) (heb : wc[qb]? = some (b, .inr (ci, fs))) (hcb : vwCl[ci]? = some (C, T, NC)) (hst : (st.map fun v => v.category).sum ≤ 8) (hf : k + mc ≤ R.cells ∧ n + ms ≤ R.slots) : RR p l e R s m args below meth c D nl k n mc ms wc lv st0 st pc (fun z => Qc z (Value.ref b :: As).toArray) := fun H locs ls hP hD hl => va_runV (As := As) (rest := st) ⟨B.1, B.2.1, B.2.2.1, B.2.2.2.1, B.2.2.2.2.1⟩ (hM H.size) (cwV N B.2.2.2.2.1 g hw hrc hrs hdd hRm) ⟨blindPC, va_recv B.2.2.2.2.2.1 hP hcb heb, preCT B.2.2.2.2.2.1 B.2.2.2.2.2.2.1 hP hD⟩ rfl hN hl.1 hs0 (lv_room hst) hd hf
theorem rr_S (B : Bx p s m args meth c cc nl own Ts D cI cZ A) (hM : CT l y wy rm D cI cZ As wc Qc mc ms) (g : GoodIn Ts (va_wsS own index y wy)) (hw : wy = Cond.code y bytes maxL ret :: wy') (hrc : rm.cells = mc) (hrs : rm.slots = ms) {N : Nat} (hN : As.length = N) (hdd : y.cls ≠ "java/lang/invoke/MethodHandle" ∧ y.cls ≠ "java/lang/invoke/VarHandle" ∧ (parseMethodDescriptor y.desc).map (fun d => d.parameters.length) = some N) (hRm : rm.frames + 1 ≤ R.frames ∧ 8 + (maxL + 11) + rm.locals ≤ R.locals) (hs0 : st0 = As.reverse ++ st) (hd : decode cc pc = .ok (.invokestatic index, 3)) (hst : (st.map fun v => v.category).sum ≤ 8) (hf : k + mc ≤ R.cells ∧ n + ms ≤ R.slots) : RR p l e R s m args below meth c D nl k n mc ms wc lv st0 st pc (fun z => Qc z As.toArray) := fun H locs ls hP hD hl => va_runS (As := As) (rest := st) ⟨B.1, B.2.1, B.2.2.1, B.2.2.2.1, B.2.2.2.2.1⟩ (hM H.size) (va_cwS N B.2.2.2.2.1 g hw hrc hrs hdd hRm) ⟨blindPC, preCT B.2.2.2.2.2.1 B.2.2.2.2.2.2.1 hP hD⟩ rfl hN hl.1 hs0 (lv_room hst) hd hf
theorem rr_SN (B : Bx p s m args meth c cc nl own Ts D cI cZ A) (hM : CT l y wy rm D cI cZ As wc Qc mc ms) (g : GoodIn Ts wy) (hw : wy = Cond.code y bytes maxL ret :: wy') (hrc : rm.cells = mc) (hrs : rm.slots = ms) (hnl : (own, index, y) ∈ nL) (hin : Cond.initialized y.cls ∈ Ts) (hsm : Cond.static y ∈ Ts) {N : Nat} (hN : As.length = N) (hdd : y.cls ≠ "java/lang/invoke/MethodHandle" ∧ y.cls ≠ "java/lang/invoke/VarHandle" ∧ (parseMethodDescriptor y.desc).map (fun d => d.parameters.length) = some N) (hRm : rm.frames + 1 ≤ R.frames ∧ 8 + (maxL + 11) + rm.locals ≤ R.locals) (hs0 : st0 = As.reverse ++ st) (hd : decode cc pc = .ok (.invokestatic index, 3)) (hst : (st.map fun v => v.category).sum ≤ 8) (hf : k + mc ≤ R.cells ∧ n + ms ≤ R.slots) : RR p l e R s m args below meth c D nl k n mc ms wc lv st0 st pc (fun z => Qc z As.toArray) := fun H locs ls hP hD hl => va_runSN (As := As) (rest := st) ⟨B.1, B.2.1, B.2.2.1, B.2.2.2.1, B.2.2.2.2.1⟩ (hM H.size) ⟨va_cnB N B.2.2.2.2.1 g hw hrc hrs (B.2.2.2.2.2.2.1 _ hnl) (B.2.2.2.2.1 _ hin) hdd hRm, B.2.2.2.2.1 _ hsm, trivial⟩ ⟨blindPC, preCT B.2.2.2.2.2.1 B.2.2.2.2.2.2.1 hP hD⟩ rfl hN hl.1 hs0 (lv_room hst) hd hf
theorem rr_I (B : Bx p s m args meth c cc nl own Ts D cI cZ A) (hM : CT l y wy rm D cI cZ (.ref b :: As) wc Qc mc ms) (g : GoodIn Ts wy) (hw : wy = Cond.code y bytes maxL none :: wy') (hrc : rm.cells = mc) (hrs : rm.slots = ms) (hin : Cond.initialized y.cls ∈ Ts) (hml : Cond.methodLink own index y ∈ Ts) (him : Cond.instanceMethod y ∈ Ts) (hy1 : y.name = "<init>") {N : Nat} (hN : As.length = N) (hdd : y.cls ≠ "java/lang/invoke/MethodHandle" ∧ y.cls ≠ "java/lang/invoke/VarHandle" ∧ (parseMethodDescriptor y.desc).map (fun d => d.parameters.length) = some N) (hRm : rm.frames + 1 ≤ R.frames ∧ 8 + (maxL + 11) + rm.locals ≤ R.locals) (hs0 : st0 = As.reverse ++ .ref b :: st) (hd : decode cc pc = .ok (.invokespecial index, 3)) (hst : (st.map fun v => v.category).sum ≤ 8) (hf : k + mc ≤ R.cells ∧ n + ms ≤ R.slots) : RR p l e R s m args below meth c D nl k n mc ms wc lv st0 st pc (fun z => Qc z (Value.ref b :: As).toArray) := fun H locs ls hP hD hl => va_runI (As := As) (rest := st) ⟨B.1, B.2.1, B.2.2.1, B.2.2.2.1, B.2.2.2.2.1⟩ (hM H.size) (cwI N B.2.2.2.2.1 g hw hrc hrs (B.2.2.2.2.1 _ hin) (B.2.2.2.2.1 _ hml) (B.2.2.2.2.1 _ him) hy1 hdd hRm) ⟨blindPC, preCT B.2.2.2.2.2.1 B.2.2.2.2.2.2.1 hP hD⟩ rfl hN hl.1 hs0 (lv_room hst) hd hf
theorem rr_IN (B : Bx p s m args meth c cc nl own Ts D cI cZ A) (hM : CT l y wy rm D cI cZ (.ref b :: As) wc Qc mc ms) (g : GoodIn Ts wy) (hw : wy = Cond.code y bytes maxL none :: wy') (hrc : rm.cells = mc) (hrs : rm.slots = ms) (hnl : (own, index, y) ∈ nL) (hin : Cond.initialized y.cls ∈ Ts) (him : Cond.instanceMethod y ∈ Ts) (hy1 : y.name = "<init>") {N : Nat} (hN : As.length = N) (hdd : y.cls ≠ "java/lang/invoke/MethodHandle" ∧ y.cls ≠ "java/lang/invoke/VarHandle" ∧ (parseMethodDescriptor y.desc).map (fun d => d.parameters.length) = some N) (hRm : rm.frames + 1 ≤ R.frames ∧ 8 + (maxL + 11) + rm.locals ≤ R.locals) (hs0 : st0 = As.reverse ++ .ref b :: st) (hd : decode cc pc = .ok (.invokespecial index, 3)) (hst : (st.map fun v => v.category).sum ≤ 8) (hf : k + mc ≤ R.cells ∧ n + ms ≤ R.slots) : RR p l e R s m args below meth c D nl k n mc ms wc lv st0 st pc (fun z => Qc z (Value.ref b :: As).toArray) := fun H locs ls hP hD hl => va_runIN (As := As) (rest := st) ⟨B.1, B.2.1, B.2.2.1, B.2.2.2.1, B.2.2.2.2.1⟩ (hM H.size) ⟨va_cnB N B.2.2.2.2.1 g hw hrc hrs (B.2.2.2.2.2.2.1 _ hnl) (B.2.2.2.2.1 _ hin) hdd hRm, hy1, B.2.2.2.2.1 _ him⟩ ⟨blindPC, preCT B.2.2.2.2.2.1 B.2.2.2.2.2.2.1 hP hD⟩ rfl hN hl.1 hs0 (lv_room hst) hd hf
theorem ww_calli (B : Bx p s m args meth c cc nl own Ts D cI cZ A) {post : Int32 → S → Prop} {a : Array Value} {k' n' : Nat} (e1 : k + mc = k') (e2 : n + ms = n') (isC isR : List Nat) (hC : isC.map (fun i => ws[i]?) = wc.map some) (hR : isR.map (fun i => ws[i]?) = wr.map some) (hnd : (va_nd isC && (va_nd isR && isR.all (fun i => decide (i ∉ isC)))) = true) (hrun : RR p l e R s m args below meth c D nl k n mc ms wc lv st0 st pc (fun z => QI D wc post wn z a)) (kk : ∀ (r : Int32) (u : S), post r u → WW p l e R s m args below meth c D A nl k' n' Q (wr ++ wn u) lv (.int r :: st) (pc + 3)) : WW p l e R s m args below meth c D A nl k n Q ws lv (st0) pc := by
  subst e1; subst e2
  intro H locs ls hP hD hS hl
  simp only [Bool.and_eq_true, List.all_eq_true, decide_eq_true_eq] at hnd
  have hPc := hP.pick isC hC
  have hDc := hD.sub isC hnd.1 hC
  have hFc := va_free (wc := wc) hD hS B.2.2.2.2.2.2.2.1 isC hC
  refine va_calli (hrun H locs ls hPc (hDc.weaken (fun _ _ _ _ => trivial)) hl) hS (fun q _ h => hFc q h) hFc (fun r u t H1 locs1 ht hvm hw hB hz1 hk1 hS1 => ?_)
  obtain ⟨hP1, hD1⟩ := hB
  rw [ht] at hP1
  obtain ⟨hP2, hD2⟩ := va_join (wr := wr) (w1 := wn u) hP hD isC isR hC hR hnd.2.1 hnd.2.2 hk1 hFc hP1 hD1
  exact kk r u hw H1 locs1 ls hP2 hD2 hS1 hl
theorem ww_calll (B : Bx p s m args meth c cc nl own Ts D cI cZ A) {post : Int64 → S → Prop} {a : Array Value} {k' n' : Nat} (e1 : k + mc = k') (e2 : n + ms = n') (isC isR : List Nat) (hC : isC.map (fun i => ws[i]?) = wc.map some) (hR : isR.map (fun i => ws[i]?) = wr.map some) (hnd : (va_nd isC && (va_nd isR && isR.all (fun i => decide (i ∉ isC)))) = true) (hrun : RR p l e R s m args below meth c D nl k n mc ms wc lv st0 st pc (fun z => QL D wc post wn z a)) (kk : ∀ (r : Int64) (u : S), post r u → WW p l e R s m args below meth c D A nl k' n' Q (wr ++ wn u) lv (.long r :: st) (pc + 3)) : WW p l e R s m args below meth c D A nl k n Q ws lv (st0) pc := by
  subst e1; subst e2
  intro H locs ls hP hD hS hl
  simp only [Bool.and_eq_true, List.all_eq_true, decide_eq_true_eq] at hnd
  have hPc := hP.pick isC hC
  have hDc := hD.sub isC hnd.1 hC
  have hFc := va_free (wc := wc) hD hS B.2.2.2.2.2.2.2.1 isC hC
  refine va_calll (hrun H locs ls hPc (hDc.weaken (fun _ _ _ _ => trivial)) hl) hS (fun q _ h => hFc q h) hFc (fun r u t H1 locs1 ht hvm hw hB hz1 hk1 hS1 => ?_)
  obtain ⟨hP1, hD1⟩ := hB
  rw [ht] at hP1
  obtain ⟨hP2, hD2⟩ := va_join (wr := wr) (w1 := wn u) hP hD isC isR hC hR hnd.2.1 hnd.2.2 hk1 hFc hP1 hD1
  exact kk r u hw H1 locs1 ls hP2 hD2 hS1 hl
theorem ww_callv (B : Bx p s m args meth c cc nl own Ts D cI cZ A) {post : S → Prop} {a : Array Value} {k' n' : Nat} (e1 : k + mc = k') (e2 : n + ms = n') (isC isR : List Nat) (hC : isC.map (fun i => ws[i]?) = wc.map some) (hR : isR.map (fun i => ws[i]?) = wr.map some) (hnd : (va_nd isC && (va_nd isR && isR.all (fun i => decide (i ∉ isC)))) = true) (hrun : RR p l e R s m args below meth c D nl k n mc ms wc lv st0 st pc (fun z => QV D wc post wn z a)) (kk : ∀ (u : S), post u → WW p l e R s m args below meth c D A nl k' n' Q (wr ++ wn u) lv st (pc + 3)) : WW p l e R s m args below meth c D A nl k n Q ws lv (st0) pc := by
  subst e1; subst e2
  intro H locs ls hP hD hS hl
  simp only [Bool.and_eq_true, List.all_eq_true, decide_eq_true_eq] at hnd
  have hPc := hP.pick isC hC
  have hDc := hD.sub isC hnd.1 hC
  have hFc := va_free (wc := wc) hD hS B.2.2.2.2.2.2.2.1 isC hC
  refine va_callv (hrun H locs ls hPc (hDc.weaken (fun _ _ _ _ => trivial)) hl) hS (fun q _ h => hFc q h) hFc (fun u t H1 locs1 ht hvm hw hB hz1 hk1 hS1 => ?_)
  obtain ⟨hP1, hD1⟩ := hB
  rw [ht] at hP1
  obtain ⟨hP2, hD2⟩ := va_join (wr := wr) (w1 := wn u) hP hD isC isR hC hR hnd.2.1 hnd.2.2 hk1 hFc hP1 hD1
  exact kk u hw H1 locs1 ls hP2 hD2 hS1 hl
theorem ww_callr (B : Bx p s m args meth c cc nl own Ts D cI cZ A) {post : Nat → S → Prop} {a : Array Value} {k' n' : Nat} (e1 : k + mc = k') (e2 : n + ms = n') (isC isR : List Nat) (hC : isC.map (fun i => ws[i]?) = wc.map some) (hR : isR.map (fun i => ws[i]?) = wr.map some) (hnd : (va_nd isC && (va_nd isR && isR.all (fun i => decide (i ∉ isC)))) = true) (hrun : RR p l e R s m args below meth c D nl k n mc ms wc lv st0 st pc (fun z => QR D wc post wn z a)) (kk : ∀ (ra : Nat) (u : S), post ra u → WW p l e R s m args below meth c D A nl k' n' Q (wr ++ wn u) lv (.ref ra :: st) (pc + 3)) : WW p l e R s m args below meth c D A nl k n Q ws lv (st0) pc := by
  subst e1; subst e2
  intro H locs ls hP hD hS hl
  simp only [Bool.and_eq_true, List.all_eq_true, decide_eq_true_eq] at hnd
  have hPc := hP.pick isC hC
  have hDc := hD.sub isC hnd.1 hC
  have hFc := va_free (wc := wc) hD hS B.2.2.2.2.2.2.2.1 isC hC
  refine va_callr (hrun H locs ls hPc (hDc.weaken (fun _ _ _ _ => trivial)) hl) hS (fun q _ h => hFc q h) hFc (fun u ra t H1 locs1 ht hvm hw hB hz1 hk1 hS1 => ?_)
  obtain ⟨hw, hB⟩ := hB
  obtain ⟨hP1, hD1⟩ := hB
  rw [ht] at hP1
  obtain ⟨hP2, hD2⟩ := va_join (wr := wr) (w1 := wn u) hP hD isC isR hC hR hnd.2.1 hnd.2.2 hk1 hFc hP1 hD1
  exact kk ra u hw H1 locs1 ls hP2 hD2 hS1 hl
end CALLS
-- mirrors: guards, names, binds
def ogi {α : Type} (i : Int32) (n : Nat) (k : Option α) : Option α := if i < 0 ∨ n ≤ i.toNatClampNeg then none else k
def ogn {α : Type} (c : Prop) [Decidable c] (k : Option α) : Option α := if c then none else k
def ogy {α : Type} (c : Prop) [Decidable c] (k : Option α) : Option α := if c then k else none
def ogl {α β : Type} (x : α) (k : α → Option β) : Option β := k x
def ogb {α β : Type} (x : Option α) (k : α → Option β) : Option β := x.bind k
theorem og_i {α : Type} {i : Int32} {n : Nat} {k : Option α} {r : α} (h : ogi i n k = some r) : vp_in i n ∧ k = some r := by
  unfold ogi at h
  split at h
  · cases h
  · next c => exact ⟨c, h⟩
theorem og_n {α : Type} {c : Prop} [Decidable c] {k : Option α} {r : α} (h : ogn c k = some r) : ¬ c ∧ k = some r := by
  unfold ogn at h
  split at h
  · cases h
  · next c => exact ⟨c, h⟩
theorem og_y {α : Type} {c : Prop} [Decidable c] {k : Option α} {r : α} (h : ogy c k = some r) : c ∧ k = some r := by
  unfold ogy at h
  split at h
  · next c => exact ⟨c, h⟩
  · cases h
theorem og_l {α β : Type} {x y : α} {k : α → Option β} {r : β} (e : y = x) (h : ogl x k = some r) : k y = some r := by subst e; exact h
theorem og_b {α β : Type} {x : Option α} {k : α → Option β} {r : β} (h : ogb x k = some r) : ∃ a, x = some a ∧ k a = some r := Option.bind_eq_some_iff.mp h
theorem og_t {α : Type} {c : Prop} [Decidable c] {a b : Option α} {r : α} (hc : c) (h : (if c then a else b) = some r) : a = some r := (if_pos hc).symm.trans h
theorem og_f {α : Type} {c : Prop} [Decidable c] {a b : Option α} {r : α} (hc : ¬ c) (h : (if c then a else b) = some r) : b = some r := (if_neg hc).symm.trans h
theorem og_s {α : Type} {a r : α} (h : some a = some r) : r = a := (Option.some.inj h).symm
theorem og_p {α β : Type} {a : α} {b : β} {r : α × β} (h : some (a, b) = some r) : a = r.1 ∧ b = r.2 := by cases h; exact ⟨rfl, rfl⟩
theorem og_0 {α : Type} {P : Prop} {r : α} (h : (none : Option α) = some r) : P := by cases h
section CALLD
variable {p : Program} {l : Launch} {e : Env} {R : Room} {s : State} {m : MethodId} {args : Array Value} {below : List Frame} {meth : Method} {c : Code} {cc : ByteArray} {nl k n : Nat} {own : String} {Ts : List Cond} {D : va_G} {cI cZ : ClassId} {A : Nat → Prop} {Q : State → Prop} {ws : va_W} {lv : List (Nat × Value)} {st : List Value} {pc : Nat} {mc ms : Nat} {st0 : List Value} {wc wr : va_W}
theorem ww_ciM (B : Bx p s m args meth c cc nl own Ts D cI cZ A) {S : Type} {wn : S → va_W} {res : Int32 × S} {a : Array Value} {k' n' : Nat} (e1 : k + mc = k') (e2 : n + ms = n') (isC isR : List Nat) (hC : isC.map (fun i => ws[i]?) = wc.map some) (hR : isR.map (fun i => ws[i]?) = wr.map some) (hnd : (va_nd isC && (va_nd isR && isR.all (fun i => decide (i ∉ isC)))) = true) (hrun : RR p l e R s m args below meth c D nl k n mc ms wc lv st0 st pc (fun z => QI D wc (fun r (u : S) => r = res.1 ∧ u = res.2) wn z a)) {ws' : va_W} (hws : wr ++ wn res.2 = ws') (kk : WW p l e R s m args below meth c D A nl k' n' Q ws' lv (.int res.1 :: st) (pc + 3)) : WW p l e R s m args below meth c D A nl k n Q ws lv (st0) pc := by
  subst hws
  exact ww_calli B e1 e2 isC isR hC hR hnd hrun (fun r u hu => by obtain ⟨rfl, rfl⟩ := hu; exact kk)
theorem ww_ci0 (B : Bx p s m args meth c cc nl own Ts D cI cZ A) {wn : Unit → va_W} {res : Int32} {a : Array Value} {k' n' : Nat} (e1 : k + mc = k') (e2 : n + ms = n') (isC isR : List Nat) (hC : isC.map (fun i => ws[i]?) = wc.map some) (hR : isR.map (fun i => ws[i]?) = wr.map some) (hnd : (va_nd isC && (va_nd isR && isR.all (fun i => decide (i ∉ isC)))) = true) (hrun : RR p l e R s m args below meth c D nl k n mc ms wc lv st0 st pc (fun z => QI D wc (fun r (_ : Unit) => r = res) wn z a)) {ws' : va_W} (hws : wr ++ wn () = ws') (kk : WW p l e R s m args below meth c D A nl k' n' Q ws' lv (.int res :: st) (pc + 3)) : WW p l e R s m args below meth c D A nl k n Q ws lv (st0) pc := by
  subst hws
  exact ww_calli B e1 e2 isC isR hC hR hnd hrun (fun r u hu => by cases u; rw [hu]; exact kk)
theorem ww_clM (B : Bx p s m args meth c cc nl own Ts D cI cZ A) {S : Type} {wn : S → va_W} {res : Int64 × S} {a : Array Value} {k' n' : Nat} (e1 : k + mc = k') (e2 : n + ms = n') (isC isR : List Nat) (hC : isC.map (fun i => ws[i]?) = wc.map some) (hR : isR.map (fun i => ws[i]?) = wr.map some) (hnd : (va_nd isC && (va_nd isR && isR.all (fun i => decide (i ∉ isC)))) = true) (hrun : RR p l e R s m args below meth c D nl k n mc ms wc lv st0 st pc (fun z => QL D wc (fun r (u : S) => r = res.1 ∧ u = res.2) wn z a)) {ws' : va_W} (hws : wr ++ wn res.2 = ws') (kk : WW p l e R s m args below meth c D A nl k' n' Q ws' lv (.long res.1 :: st) (pc + 3)) : WW p l e R s m args below meth c D A nl k n Q ws lv (st0) pc := by
  subst hws
  exact ww_calll B e1 e2 isC isR hC hR hnd hrun (fun r u hu => by obtain ⟨rfl, rfl⟩ := hu; exact kk)
theorem ww_cl0 (B : Bx p s m args meth c cc nl own Ts D cI cZ A) {wn : Unit → va_W} {res : Int64} {a : Array Value} {k' n' : Nat} (e1 : k + mc = k') (e2 : n + ms = n') (isC isR : List Nat) (hC : isC.map (fun i => ws[i]?) = wc.map some) (hR : isR.map (fun i => ws[i]?) = wr.map some) (hnd : (va_nd isC && (va_nd isR && isR.all (fun i => decide (i ∉ isC)))) = true) (hrun : RR p l e R s m args below meth c D nl k n mc ms wc lv st0 st pc (fun z => QL D wc (fun r (_ : Unit) => r = res) wn z a)) {ws' : va_W} (hws : wr ++ wn () = ws') (kk : WW p l e R s m args below meth c D A nl k' n' Q ws' lv (.long res :: st) (pc + 3)) : WW p l e R s m args below meth c D A nl k n Q ws lv (st0) pc := by
  subst hws
  exact ww_calll B e1 e2 isC isR hC hR hnd hrun (fun r u hu => by cases u; rw [hu]; exact kk)
theorem ww_cvM (B : Bx p s m args meth c cc nl own Ts D cI cZ A) {S : Type} {wn : S → va_W} {res : S} {a : Array Value} {k' n' : Nat} (e1 : k + mc = k') (e2 : n + ms = n') (isC isR : List Nat) (hC : isC.map (fun i => ws[i]?) = wc.map some) (hR : isR.map (fun i => ws[i]?) = wr.map some) (hnd : (va_nd isC && (va_nd isR && isR.all (fun i => decide (i ∉ isC)))) = true) (hrun : RR p l e R s m args below meth c D nl k n mc ms wc lv st0 st pc (fun z => QV D wc (fun (u : S) => u = res) wn z a)) {ws' : va_W} (hws : wr ++ wn res = ws') (kk : WW p l e R s m args below meth c D A nl k' n' Q ws' lv st (pc + 3)) : WW p l e R s m args below meth c D A nl k n Q ws lv (st0) pc := by
  subst hws
  exact ww_callv B e1 e2 isC isR hC hR hnd hrun (fun u hu => by rw [hu]; exact kk)
end CALLD
