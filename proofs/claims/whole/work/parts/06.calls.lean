/-! CONTRACTS over states: from a state, with these arguments, the method answers r and leaves a state -/
def g_pre (Gw : gW) (σ : sg) (U : State) : Prop := g_at Gw σ U.heap ∧ va_K Gw.1 vwCl (g_tys Gw) U ∧ g_N U
def qI (Gw : gW) (r : Int32) (σ : sg) : Array Value → State → Outcome → State → Prop := va_Qi (fun (v : Int32) (u : sg) => v = r ∧ u = σ) (fun u t => g_at Gw u t.heap) (g_A Gw)
def qL (Gw : gW) (r : Int64) (σ : sg) : Array Value → State → Outcome → State → Prop := va_Ql (fun (v : Int64) (u : sg) => v = r ∧ u = σ) (fun u t => g_at Gw u t.heap) (g_A Gw)
def qV (Gw : gW) (σ : sg) : Array Value → State → Outcome → State → Prop := va_Qv (fun (u : sg) => u = σ) (fun u t => g_at Gw u t.heap) (g_A Gw)
def gM (l : Launch) (Gw : gW) (y : MethodName) (b : ByteArray) (n : Nat) (ret : Option FieldType) (R : Room) (av : List Value) (σ : sg) (Qc : Array Value → State → Outcome → State → Prop) : Prop :=
  Met l y (.code y b n ret :: gB) R (va_Pc av (g_pre Gw σ)) Qc 0 0 (g_A Gw)
/-- the goal of a frame is the method's end -/
def gQ (X : gX) (Qc : Array Value → State → Outcome → State → Prop) : Prop := XQ X = MQ (Xb X) Qc (Xa X) (Xs X) 0 0 (g_A (XG X)) ∧ Xk X = (0, 0) ∧ XA X = g_A (XG X)
theorem g_N_blind {U : State} {g : JFrame} {mk : MethodId} {a : Array Value} (h : g_N U) : g_N (U.calling g mk a) := fun w hw => by
  obtain ⟨-, hg⟩ := List.mem_filter.mp hw
  have h1 := h w hw
  cases w <;> first | (cases hg; done) | exact va_Nw.same rfl rfl h1
theorem g_N_warm {s U : State} (hW : s.WarmedH U.vm) (h : g_N s) : g_N U := fun w hw => by
  obtain ⟨-, hg⟩ := List.mem_filter.mp hw
  have h1 := h w hw
  cases w <;> first | (cases hg; done) | exact va_Nw.warmF hW h1 | exact va_Nw.warmM hW h1
theorem g_blind (Gw : gW) (σ : sg) (av : List Value) : FrameBlind (va_Pc av (g_pre Gw σ)) := fun a U g mk q => by
  obtain ⟨q0, q1, q2, q3⟩ := q
  exact ⟨q0, q1, va_K.moved (u := U) (U := U.calling g mk a) (Vm.Alike.refl U.vm) q2, g_N_blind q3⟩
theorem g_pre_of {s U : State} {Gw : gW} {σ : sg} {H : Heap} (hP : g_at Gw σ H) (hK : va_K Gw.1 vwCl (g_tys Gw) s) (hN : g_N s) (hU : U.heap = H) (hW : s.WarmedH U.vm) : g_pre Gw σ U := ⟨by rw [hU]; exact hP, va_K.moved hW.alike hK, g_N_warm hW hN⟩
/-- a method's body gives its contract -/
theorem g_met {l : Launch} {Gw : gW} (hI : g_I Gw) {y : MethodName} {b : ByteArray} {n : Nat} {ret : Option FieldType} {R : Room} {av : List Value} {σ : sg} {Qc : Array Value → State → Outcome → State → Prop} (hy : plainName y.cls = true) (hn : (lg_sl av).length ≤ n)
    (body : ∀ X : gX, Xl X = l → XG X = Gw → gC X b n y.cls ret R → gQ X Qc → G X n σ 0 (lv_args 0 av) []) : gM l Gw y b n ret R av σ Qc := by
  refine Met.ofW (cc := b) (maxL := n) (ret := ret) hy rfl ?_
  intro p e s m args below meth c s₁ B hml hv
  obtain ⟨rfl, hP, hK, hN⟩ := hv
  have hts := atoms_spec (ws := (.code y b n ret :: gB)) B.pre
  have hown : s.vm.findClass y.cls = some m.cls := findClass_of_methodNamed B.named
  have hl := lv_entry av (n := n) hn
  have hc := body (p, l, e, R, s, m, av.toArray, below, meth, c, (0, 0), MQ below Qc av.toArray s 0 0 (g_A Gw), Gw, g_A Gw) rfl rfl ⟨B.exec, B.bytes, hml, hown, fun w h => hts w (List.mem_cons_of_mem _ h), B.notSynchronized, hK, hI, fun r hr => ⟨r, hr, rfl⟩, ⟨Nat.zero_le _, Nat.zero_le _⟩, B.returns, hN, rfl⟩ ⟨rfl, rfl, rfl⟩
  rw [lg_entry_eq]
  exact hc s.heap [] _ hP va_S.rf hl
section GCALL
variable {X : gX} {cc : ByteArray} {nL pc : Nat} {own : String} {ret : Option FieldType} {R : Room} {σ : sg} {lv : List (Nat × Value)} {stk : List Value}
/-! the ends -/
theorem g_iret (C : gC X cc nL own ret R) {ty : FieldType} (hr : ret = some ty) {v : Int32} {Qc : Array Value → State → Outcome → State → Prop} (hQ : gQ X Qc) (hq : Qc = qI (XG X) v σ) (hn : narrow ty (.int v) = .int v) (hdg : decode cc pc = .ok (.ireturn, 1)) : G X nL σ pc lv [.int v] := by
  subst hq
  intro H locs ls hP hS hl
  obtain ⟨q1, q2, q3⟩ := hQ
  rw [q1, q2]
  rw [q3] at hS
  exact W.zret (v := v) C.1 C.2.1 (C.2.2.2.2.2.2.2.2.2.2.1.trans hr) hn (fun t ht _ => ⟨⟨v, σ, rfl, ⟨rfl, rfl⟩, (by show g_at _ _ t.heap; rw [ht]; exact hP)⟩, hS.F ht⟩) hS.2.2 hdg C.2.2.2.2.2.1
theorem g_lret (C : gC X cc nL own ret R) (hr : ret = some .long) {v : Int64} {Qc : Array Value → State → Outcome → State → Prop} (hQ : gQ X Qc) (hq : Qc = qL (XG X) v σ) (hdg : decode cc pc = .ok (.lreturn, 1)) : G X nL σ pc lv [.long v] := by
  subst hq
  intro H locs ls hP hS hl
  obtain ⟨q1, q2, q3⟩ := hQ
  rw [q1, q2]
  rw [q3] at hS
  exact W.lret (v := v) C.1 C.2.1 (C.2.2.2.2.2.2.2.2.2.2.1.trans hr) (fun t ht _ => ⟨⟨v, σ, rfl, ⟨rfl, rfl⟩, (by show g_at _ _ t.heap; rw [ht]; exact hP)⟩, hS.F ht⟩) hS.2.2 hdg C.2.2.2.2.2.1
theorem g_vret (C : gC X cc nL own ret R) (hr : ret = none) {Qc : Array Value → State → Outcome → State → Prop} (hQ : gQ X Qc) (hq : Qc = qV (XG X) σ) (hdg : decode cc pc = .ok (.return_, 1)) : G X nL σ pc lv [] := by
  subst hq
  intro H locs ls hP hS hl
  obtain ⟨q1, q2, q3⟩ := hQ
  rw [q1, q2]
  rw [q3] at hS
  exact W.vret C.1 C.2.1 (C.2.2.2.2.2.2.2.2.2.2.1.trans hr) (fun t ht _ => ⟨⟨σ, rfl, rfl, (by show g_at _ _ t.heap; rw [ht]; exact hP)⟩, hS.F ht⟩) hS.2.2 hdg C.2.2.2.2.2.1
/-! calls -/
/-- what a call needs of the tables and of the room -/
def gV (own : String) (index : Nat) (y : MethodName) (b : ByteArray) (n : Nat) (ret : Option FieldType) : Prop := Cond.methodLink own index y ∈ gB ∧ Cond.instanceMethod y ∈ gB ∧ Cond.selects y.cls y y ∈ gB ∧ Cond.initialized y.cls ∈ gB ∧ Cond.code y b n ret ∈ gB
def gS (own : String) (index : Nat) (y : MethodName) (b : ByteArray) (n : Nat) (ret : Option FieldType) : Prop := Cond.methodLink own index y ∈ gB ∧ Cond.static y ∈ gB ∧ Cond.initialized y.cls ∈ gB ∧ Cond.code y b n ret ∈ gB
theorem gV_good {own : String} {index : Nat} {y : MethodName} {b : ByteArray} {n : Nat} {ret : Option FieldType} (h : gV own index y b n ret) : GoodIn gB (wsV own index y.cls y (.code y b n ret :: gB)) := g_good fun w hw => by
  unfold wsV at hw
  rcases List.mem_append.mp hw with h1 | h1
  · simp only [List.mem_cons, List.not_mem_nil, or_false] at h1
    rcases h1 with rfl | rfl | rfl | rfl
    · exact h.1
    · exact h.2.1
    · exact h.2.2.1
    · exact h.2.2.2.1
  · rcases List.mem_cons.mp h1 with rfl | h2
    · exact h.2.2.2.2
    · exact h2
theorem gS_good {own : String} {index : Nat} {y : MethodName} {b : ByteArray} {n : Nat} {ret : Option FieldType} (h : gS own index y b n ret) : GoodIn gB (va_wsS own index y (.code y b n ret :: gB)) := g_good fun w hw => by
  unfold va_wsS at hw
  rcases List.mem_append.mp hw with h1 | h1
  · simp only [List.mem_cons, List.not_mem_nil, or_false] at h1
    rcases h1 with rfl | rfl | rfl
    · exact h.1
    · exact h.2.1
    · exact h.2.2.1
  · rcases List.mem_cons.mp h1 with rfl | h2
    · exact h.2.2.2
    · exact h2
/-- a call on an object: CallRun for it, whatever it answers -/
theorem g_runV (C : gC X cc nL own ret R) {y : MethodName} {b : ByteArray} {n index na : Nat} {rt : Option FieldType} {rm : Room} {As : List Value} {Qc : Array Value → State → Outcome → State → Prop} {r ci : Nat} {q : vw_C} {fl : List (Option Nat)} (hM : gM (Xl X) (XG X) y b n rt rm (.ref (Xd X r) :: As) σ Qc) (hw : gV own index y b n rt) (hr : r < 737) (hsh : g_sh r = .inl (ci, fl)) (hci : vwCl[ci]? = some q) (hq : q.1 = y.cls)
    (hd : y.cls ≠ "java/lang/invoke/MethodHandle" ∧ y.cls ≠ "java/lang/invoke/VarHandle" ∧ (parseMethodDescriptor y.desc).map (fun d => d.parameters.length) = some na) (hrm : rm.cells = 0 ∧ rm.slots = 0) (hR : rm.frames + 1 ≤ R.frames ∧ 8 + (n + 11) + rm.locals ≤ R.locals) (hn : As.length = na) {st0 : List Value} (hst : st0 = As.reverse ++ .ref (Xd X r) :: stk) (hW : (stk.map fun v => v.category).sum ≤ 8) (hdg : decode cc pc = .ok (.invokevirtual index, 3)) {H : Heap} {locs : List Loc} {ls : Array Slot} (hP : g_at (XG X) σ H) (hl : lv_has ls nL lv) :
    va_Run (Xp X) (Xl X) (Xe X) (XR X) (Xs X) (Xm X) (Xa X) (Xb X) (Xt X) (Xc X) H locs (Xk X).1 (Xk X).2 0 0 (F0 (Xm X) pc ls st0) stk (Qc (Value.ref (Xd X r) :: As).toArray) (g_A (XG X)) := by
  have hRR : XR X = R := C.2.2.2.2.2.2.2.2.2.2.2.2
  have hN : g_N (Xs X) := C.2.2.2.2.2.2.2.2.2.2.2.1
  refine va_runV (C := y.cls) (As := As) (rest := stk) (n := na) (Ts := gB) ⟨C.1, C.2.1, C.2.2.1, C.2.2.2.1, C.2.2.2.2.1⟩ hM (cwV na C.2.2.2.2.1 (gV_good hw) rfl hrm.1 hrm.2 ⟨rfl, hd⟩ (by rw [hRR]; exact hR)) ⟨g_blind _ _ _, ?_, fun U hU hW => ⟨rfl, g_pre_of hP (gC_K C) hN hU hW⟩⟩ rfl hn hl.1 hst (lv_room hW) hdg ⟨C.2.2.2.2.2.2.2.2.2.1.1, C.2.2.2.2.2.2.2.2.2.1.2⟩
  rw [← hq]
  exact va_recv (gC_K C) hP hci (g_fld (C0 := "") (T := q.2.1) (N := 0) hr hsh)
theorem g_runS (C : gC X cc nL own ret R) {y : MethodName} {b : ByteArray} {n index na : Nat} {rt : Option FieldType} {rm : Room} {As : List Value} {Qc : Array Value → State → Outcome → State → Prop} (hM : gM (Xl X) (XG X) y b n rt rm As σ Qc) (hw : gS own index y b n rt)
    (hd : y.cls ≠ "java/lang/invoke/MethodHandle" ∧ y.cls ≠ "java/lang/invoke/VarHandle" ∧ (parseMethodDescriptor y.desc).map (fun d => d.parameters.length) = some na) (hrm : rm.cells = 0 ∧ rm.slots = 0) (hR : rm.frames + 1 ≤ R.frames ∧ 8 + (n + 11) + rm.locals ≤ R.locals) (hn : As.length = na) {st0 : List Value} (hst : st0 = As.reverse ++ stk) (hW : (stk.map fun v => v.category).sum ≤ 8) (hdg : decode cc pc = .ok (.invokestatic index, 3)) {H : Heap} {locs : List Loc} {ls : Array Slot} (hP : g_at (XG X) σ H) (hl : lv_has ls nL lv) :
    va_Run (Xp X) (Xl X) (Xe X) (XR X) (Xs X) (Xm X) (Xa X) (Xb X) (Xt X) (Xc X) H locs (Xk X).1 (Xk X).2 0 0 (F0 (Xm X) pc ls st0) stk (Qc As.toArray) (g_A (XG X)) := by
  have hRR : XR X = R := C.2.2.2.2.2.2.2.2.2.2.2.2
  have hN : g_N (Xs X) := C.2.2.2.2.2.2.2.2.2.2.2.1
  exact va_runS (As := As) (rest := stk) (n := na) (Ts := gB) ⟨C.1, C.2.1, C.2.2.1, C.2.2.2.1, C.2.2.2.2.1⟩ hM (va_cwS na C.2.2.2.2.1 (gS_good hw) rfl hrm.1 hrm.2 hd (by rw [hRR]; exact hR)) ⟨g_blind _ _ _, fun U hU hW => ⟨rfl, g_pre_of hP (gC_K C) hN hU hW⟩⟩ rfl hn hl.1 hst (lv_room hW) hdg ⟨C.2.2.2.2.2.2.2.2.2.1.1, C.2.2.2.2.2.2.2.2.2.1.2⟩
theorem gA_le (C : gC X cc nL own ret R) (q : Nat) (h : g_A (XG X) q) : XA X q := by
  obtain ⟨r, hr, rfl⟩ := h
  exact C.2.2.2.2.2.2.2.2.1 r hr
theorem g_callVi (C : gC X cc nL own ret R) {y : MethodName} {b : ByteArray} {n index : Nat} (na : Nat) {rt : Option FieldType} {rm : Room} (As : List Value) {v : Int32} {σ' : sg} {r ci : Nat} {q : vw_C} {fl : List (Option Nat)} (hM : gM (Xl X) (XG X) y b n rt rm (.ref (Xd X r) :: As) σ (qI (XG X) v σ')) (hw : gV own index y b n rt) (hr : r < 737) (hsh : g_sh r = .inl (ci, fl)) (hci : vwCl[ci]? = some q) (hq : q.1 = y.cls)
    (hd : y.cls ≠ "java/lang/invoke/MethodHandle" ∧ y.cls ≠ "java/lang/invoke/VarHandle" ∧ (parseMethodDescriptor y.desc).map (fun d => d.parameters.length) = some na) (hrm : rm.cells = 0 ∧ rm.slots = 0) (hR : rm.frames + 1 ≤ R.frames ∧ 8 + (n + 11) + rm.locals ≤ R.locals) (hn : As.length = na) {st0 : List Value} (hst : st0 = As.reverse ++ .ref (Xd X r) :: stk) (hW : (stk.map fun v => v.category).sum ≤ 8) (hdg : decode cc pc = .ok (.invokevirtual index, 3)) (kk : G X nL σ' (pc + 3) lv (.int v :: stk)) : G X nL σ pc lv st0 :=
  fun H locs ls hP hS hl => va_calli (g_runV C hM hw hr hsh hci hq hd hrm hR hn hst hW hdg hP hl) hS (fun q _ h => gA_le C q h) (fun q h => gA_le C q h) (fun v1 u t H1 l1 ht _ hw hB _ _ hS1 => by obtain ⟨rfl, rfl⟩ := hw; exact kk H1 l1 ls (by rw [← ht]; exact hB) hS1 hl)
theorem g_callVl (C : gC X cc nL own ret R) {y : MethodName} {b : ByteArray} {n index : Nat} (na : Nat) {rt : Option FieldType} {rm : Room} (As : List Value) {v : Int64} {σ' : sg} {r ci : Nat} {q : vw_C} {fl : List (Option Nat)} (hM : gM (Xl X) (XG X) y b n rt rm (.ref (Xd X r) :: As) σ (qL (XG X) v σ')) (hw : gV own index y b n rt) (hr : r < 737) (hsh : g_sh r = .inl (ci, fl)) (hci : vwCl[ci]? = some q) (hq : q.1 = y.cls)
    (hd : y.cls ≠ "java/lang/invoke/MethodHandle" ∧ y.cls ≠ "java/lang/invoke/VarHandle" ∧ (parseMethodDescriptor y.desc).map (fun d => d.parameters.length) = some na) (hrm : rm.cells = 0 ∧ rm.slots = 0) (hR : rm.frames + 1 ≤ R.frames ∧ 8 + (n + 11) + rm.locals ≤ R.locals) (hn : As.length = na) {st0 : List Value} (hst : st0 = As.reverse ++ .ref (Xd X r) :: stk) (hW : (stk.map fun v => v.category).sum ≤ 8) (hdg : decode cc pc = .ok (.invokevirtual index, 3)) (kk : G X nL σ' (pc + 3) lv (.long v :: stk)) : G X nL σ pc lv st0 :=
  fun H locs ls hP hS hl => va_calll (g_runV C hM hw hr hsh hci hq hd hrm hR hn hst hW hdg hP hl) hS (fun q _ h => gA_le C q h) (fun q h => gA_le C q h) (fun v1 u t H1 l1 ht _ hw hB _ _ hS1 => by obtain ⟨rfl, rfl⟩ := hw; exact kk H1 l1 ls (by rw [← ht]; exact hB) hS1 hl)
theorem g_callVv (C : gC X cc nL own ret R) {y : MethodName} {b : ByteArray} {n index : Nat} (na : Nat) {rt : Option FieldType} {rm : Room} (As : List Value) {σ' : sg} {r ci : Nat} {q : vw_C} {fl : List (Option Nat)} (hM : gM (Xl X) (XG X) y b n rt rm (.ref (Xd X r) :: As) σ (qV (XG X) σ')) (hw : gV own index y b n rt) (hr : r < 737) (hsh : g_sh r = .inl (ci, fl)) (hci : vwCl[ci]? = some q) (hq : q.1 = y.cls)
    (hd : y.cls ≠ "java/lang/invoke/MethodHandle" ∧ y.cls ≠ "java/lang/invoke/VarHandle" ∧ (parseMethodDescriptor y.desc).map (fun d => d.parameters.length) = some na) (hrm : rm.cells = 0 ∧ rm.slots = 0) (hR : rm.frames + 1 ≤ R.frames ∧ 8 + (n + 11) + rm.locals ≤ R.locals) (hn : As.length = na) {st0 : List Value} (hst : st0 = As.reverse ++ .ref (Xd X r) :: stk) (hW : (stk.map fun v => v.category).sum ≤ 8) (hdg : decode cc pc = .ok (.invokevirtual index, 3)) (kk : G X nL σ' (pc + 3) lv stk) : G X nL σ pc lv st0 :=
  fun H locs ls hP hS hl => va_callv (g_runV C hM hw hr hsh hci hq hd hrm hR hn hst hW hdg hP hl) hS (fun q _ h => gA_le C q h) (fun q h => gA_le C q h) (fun u t H1 l1 ht _ hw hB _ _ hS1 => by cases hw; exact kk H1 l1 ls (by rw [← ht]; exact hB) hS1 hl)
theorem g_callSi (C : gC X cc nL own ret R) {y : MethodName} {b : ByteArray} {n index : Nat} (na : Nat) {rt : Option FieldType} {rm : Room} (As : List Value) {v : Int32} {σ' : sg} (hM : gM (Xl X) (XG X) y b n rt rm As σ (qI (XG X) v σ')) (hw : gS own index y b n rt)
    (hd : y.cls ≠ "java/lang/invoke/MethodHandle" ∧ y.cls ≠ "java/lang/invoke/VarHandle" ∧ (parseMethodDescriptor y.desc).map (fun d => d.parameters.length) = some na) (hrm : rm.cells = 0 ∧ rm.slots = 0) (hR : rm.frames + 1 ≤ R.frames ∧ 8 + (n + 11) + rm.locals ≤ R.locals) (hn : As.length = na) {st0 : List Value} (hst : st0 = As.reverse ++ stk) (hW : (stk.map fun v => v.category).sum ≤ 8) (hdg : decode cc pc = .ok (.invokestatic index, 3)) (kk : G X nL σ' (pc + 3) lv (.int v :: stk)) : G X nL σ pc lv st0 :=
  fun H locs ls hP hS hl => va_calli (g_runS C hM hw hd hrm hR hn hst hW hdg hP hl) hS (fun q _ h => gA_le C q h) (fun q h => gA_le C q h) (fun v1 u t H1 l1 ht _ hw hB _ _ hS1 => by obtain ⟨rfl, rfl⟩ := hw; exact kk H1 l1 ls (by rw [← ht]; exact hB) hS1 hl)
theorem g_callSv (C : gC X cc nL own ret R) {y : MethodName} {b : ByteArray} {n index : Nat} (na : Nat) {rt : Option FieldType} {rm : Room} (As : List Value) {σ' : sg} (hM : gM (Xl X) (XG X) y b n rt rm As σ (qV (XG X) σ')) (hw : gS own index y b n rt)
    (hd : y.cls ≠ "java/lang/invoke/MethodHandle" ∧ y.cls ≠ "java/lang/invoke/VarHandle" ∧ (parseMethodDescriptor y.desc).map (fun d => d.parameters.length) = some na) (hrm : rm.cells = 0 ∧ rm.slots = 0) (hR : rm.frames + 1 ≤ R.frames ∧ 8 + (n + 11) + rm.locals ≤ R.locals) (hn : As.length = na) {st0 : List Value} (hst : st0 = As.reverse ++ stk) (hW : (stk.map fun v => v.category).sum ≤ 8) (hdg : decode cc pc = .ok (.invokestatic index, 3)) (kk : G X nL σ' (pc + 3) lv stk) : G X nL σ pc lv st0 :=
  fun H locs ls hP hS hl => va_callv (g_runS C hM hw hd hrm hR hn hst hW hdg hP hl) hS (fun q _ h => gA_le C q h) (fun q h => gA_le C q h) (fun u t H1 l1 ht _ hw hB _ _ hS1 => by cases hw; exact kk H1 l1 ls (by rw [← ht]; exact hB) hS1 hl)
end GCALL
