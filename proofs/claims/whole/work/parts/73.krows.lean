/-! CONSTRUCTORS: an exact heap, n regions made; the rows over it -/
def k_up (E : Nat → va_E) (r : Nat) (e : va_E) : Nat → va_E := fun q => if q = r then e else E q
theorem k_up_self (E : Nat → va_E) (r : Nat) (e : va_E) : k_up E r e r = e := by simp [k_up]
theorem k_up_ne (E : Nat → va_E) {r q : Nat} (e : va_E) (h : q ≠ r) : k_up E r e q = E q := by simp [k_up, h]
def kx (Gw : gW) (E : Nat → va_E) (n : Nat) (H : Heap) : Prop := H.size = Gw.2.2 n ∧ ∀ r : Nat, r < n → va_at Gw.1 vwCl (Gw.2.2 r, E r) H
def kI (Gw : gW) : Prop := ∀ r : Nat, Gw.2.2 r = Gw.2.2 0 + r
def kAd (Gw : gW) : Nat → Prop := fun q => Gw.2.2 0 ≤ q
def kO (Gw : gW) (U : State) : Prop := (∃ k : Class, U.vm.classes[Gw.2.1 2]? = some k ∧ k.kind = .array (Gw.2.1 0) (.array .int)) ∧ ∃ k : Class, U.vm.classes[Gw.2.1 3]? = some k ∧ k.kind = .array (Gw.2.1 2) (.array (.array .int))
theorem kO.moved {u U : State} (hvm : u.vm.Alike U.vm) {Gw : gW} (h : kO Gw u) : kO Gw U := by
  obtain ⟨⟨k2, h2, g2⟩, k3, h3, g3⟩ := h
  obtain ⟨k2', hk2, he2⟩ := hvm.2.2 _ _ h2
  obtain ⟨k3', hk3, he3⟩ := hvm.2.2 _ _ h3
  exact ⟨⟨k2', hk2, by rw [he2]; exact g2⟩, k3', hk3, by rw [he3]; exact g3⟩
theorem kx_push {Gw : gW} {E : Nat → va_E} {n : Nat} {H H1 : Heap} (hI : kI Gw) (h : kx Gw E n H) (hz : H1.size = H.size + 1) (ho : ∀ q : Nat, q < H.size → H1[q]? = H[q]?) (he : va_at Gw.1 vwCl (Gw.2.2 n, E n) H1) : kx Gw E (n + 1) H1 := by
  refine ⟨by rw [hz, h.1, hI (n + 1), hI n]; omega, fun r hr => ?_⟩
  rcases Nat.lt_or_ge r n with h1 | h1
  · exact (h.2 r h1).kept (ho _ (by rw [h.1, hI n]; show Gw.2.2 r < _; rw [hI r]; omega))
  · have e : r = n := by omega
    subst e
    exact he
theorem kx_ext {Gw : gW} {E E' : Nat → va_E} {n : Nat} {H : Heap} (h : kx Gw E n H) (he : ∀ r : Nat, r < n → E r = E' r) : kx Gw E' n H := ⟨h.1, fun r hr => by rw [← he r hr]; exact h.2 r hr⟩
theorem kx_set {Gw : gW} {E : Nat → va_E} {n r : Nat} {e : va_E} {H H1 : Heap} (hI : kI Gw) (h : kx Gw E n H) (hz : H1.size = H.size) (ho : ∀ q : Nat, q ≠ Gw.2.2 r → H1[q]? = H[q]?) (he : va_at Gw.1 vwCl (Gw.2.2 r, e) H1) : kx Gw (k_up E r e) n H1 := by
  refine ⟨by rw [hz, h.1], fun q hq => ?_⟩
  by_cases e1 : q = r
  · subst e1
    rw [k_up_self]
    exact he
  · rw [k_up_ne _ _ e1]
    exact (h.2 q hq).kept (ho _ (by show Gw.2.2 q ≠ _; rw [hI q, hI r]; omega))
/-- at this code place, with this heap, the run comes to its goal -/
def KK (X : gX) (nL : Nat) (E : Nat → va_E) (n mc ms pc : Nat) (lv : List (Nat × Value)) (stk : List Value) : Prop :=
  ∀ (H : Heap) (locs : List Loc) (ls : Array Slot), kx (XG X) E n H → va_S (XA X) (Xs X).heap H locs → lv_has ls nL lv → W (Xp X) (Xl X) (Xe X) (XR X) (Xs X) (Xm X) (Xa X) (Xb X) (Xt X) (Xc X) H locs mc ms (XQ X) (F0 (Xm X) pc ls stk)
def kC (X : gX) (cc : ByteArray) (nL : Nat) (own : String) (R : Room) : Prop :=
  (Xp X).tables.exec = Jvm.exec ∧ (Xc X).code = cc ∧ (Xc X).maxLocals = nL ∧ (Xs X).vm.findClass own = some (Xm X).cls ∧ (∀ w ∈ gB, w.before (Xa X) (Xs X) = true) ∧ va_K (XG X).1 vwCl (g_tys (XG X)) (Xs X) ∧ kI (XG X) ∧ (∀ q : Nat, kAd (XG X) q → (XA X) q) ∧ g_N (Xs X) ∧ XR X = R ∧ kO (XG X) (Xs X)
def kP (Gw : gW) (E : Nat → va_E) (n : Nat) (U : State) : Prop := kx Gw E n U.heap ∧ va_K Gw.1 vwCl (g_tys Gw) U ∧ g_N U ∧ kO Gw U
def kV (Gw : gW) (E : Nat → va_E) (n : Nat) : Array Value → State → Outcome → State → Prop := va_Qv (fun (_ : Unit) => True) (fun _ t => kx Gw E n t.heap) (kAd Gw)
def kM (l : Launch) (Gw : gW) (y : MethodName) (b : ByteArray) (nL : Nat) (R : Room) (av : List Value) (E : Nat → va_E) (n : Nat) (E' : Nat → va_E) (n' : Nat) : Prop :=
  Met l y (.code y b nL none :: gB) R (va_Pc av (kP Gw E n)) (kV Gw E' n') R.cells R.slots (kAd Gw)
def kQ (X : gX) (R : Room) (E : Nat → va_E) (n : Nat) : Prop := XQ X = MQ (Xb X) (kV (XG X) E n) (Xa X) (Xs X) R.cells R.slots (kAd (XG X)) ∧ (Xt X).sig.returnType = none ∧ (Xt X).locks = false ∧ XA X = kAd (XG X)
theorem k_blind (Gw : gW) (E : Nat → va_E) (n : Nat) (av : List Value) : FrameBlind (va_Pc av (kP Gw E n)) := fun a U g mk q => by
  obtain ⟨q0, q1, q2, q3, q4⟩ := q
  exact ⟨q0, q1, va_K.moved (u := U) (U := U.calling g mk a) (Vm.Alike.refl U.vm) q2, g_N_blind q3, kO.moved (u := U) (U := U.calling g mk a) (Vm.Alike.refl U.vm) q4⟩
theorem k_met {l : Launch} {Gw : gW} (hI : kI Gw) {y : MethodName} {b : ByteArray} {nL : Nat} {R : Room} {av : List Value} {E E' : Nat → va_E} {n n' : Nat} (hy : plainName y.cls = true) (hn : (lg_sl av).length ≤ nL)
    (body : ∀ X : gX, XG X = Gw → Xl X = l → kC X b nL y.cls R → (Xt X).name = y.name → kQ X R E' n' → KK X nL E n 0 0 0 (lv_args 0 av) []) : kM l Gw y b nL R av E n E' n' := by
  refine Met.ofW (cc := b) (maxL := nL) (ret := none) hy rfl ?_
  intro p e s m args below meth c s₁ B hml hv
  obtain ⟨rfl, hP, hK, hN, hO⟩ := hv
  have hts := atoms_spec (ws := (.code y b nL none :: gB)) B.pre
  have hown : s.vm.findClass y.cls = some m.cls := findClass_of_methodNamed B.named
  have hl := lv_entry av (n := nL) hn
  have hc := body (p, l, e, R, s, m, av.toArray, below, meth, c, (0, 0), MQ below (kV Gw E' n') av.toArray s R.cells R.slots (kAd Gw), Gw, kAd Gw) rfl rfl ⟨B.exec, B.bytes, hml, hown, fun w h => hts w (List.mem_cons_of_mem _ h), hK, hI, fun q h => h, hN, rfl, hO⟩ (name_of_methodNamed B.named B.method).1 ⟨rfl, B.returns, B.notSynchronized, rfl⟩
  rw [lg_entry_eq]
  exact hc s.heap [] _ hP va_S.rf hl
section KR
variable {X : gX} {cc : ByteArray} {nL pc n mc ms : Nat} {own : String} {R : Room} {E : Nat → va_E} {lv : List (Nat × Value)} {stk : List Value}
theorem k_iconst (C : kC X cc nL own R) {i : Int} {v : Int32} (hdg : decode cc pc = .ok (.iconst i, 1)) (hv : Int32.ofInt i = v) (k : KK X nL E n mc ms (pc + 1) lv (.int v :: stk)) : KK X nL E n mc ms pc lv stk :=
  fun H locs ls hP hS hl => lv_iconst C.1 C.2.1 hdg hv (k H locs ls hP hS hl)
theorem k_bipush (C : kC X cc nL own R) {i : Int} {v : Int32} (hdg : decode cc pc = .ok (.bipush i, 2)) (hv : (Int8.ofInt i).toInt32 = v) (k : KK X nL E n mc ms (pc + 2) lv (.int v :: stk)) : KK X nL E n mc ms pc lv stk :=
  fun H locs ls hP hS hl => lv_bipush C.1 C.2.1 hdg hv (k H locs ls hP hS hl)
theorem k_sipush (C : kC X cc nL own R) {i : Int} {v : Int32} (hdg : decode cc pc = .ok (.sipush i, 3)) (hv : (Int16.ofInt i).toInt32 = v) (k : KK X nL E n mc ms (pc + 3) lv (.int v :: stk)) : KK X nL E n mc ms pc lv stk :=
  fun H locs ls hP hS hl => lv_sipush C.1 C.2.1 hdg hv (k H locs ls hP hS hl)
theorem k_aload_n (C : kC X cc nL own R) {j : Fin 4} {x : Nat} (i : Nat) (hdg : decode cc pc = .ok (.aload_n j, 1)) (hl : lv[i]? = some ((j : Nat), .ref x)) (k : KK X nL E n mc ms (pc + 1) lv (.ref x :: stk)) : KK X nL E n mc ms pc lv stk :=
  fun H locs ls hP hS h => lv_aload_n C.1 C.2.1 hdg rfl (lv_at h i hl) (k H locs ls hP hS h)
theorem k_dup (C : kC X cc nL own R) {x : Nat} (hdg : decode cc pc = .ok (.dup, 1)) (k : KK X nL E n mc ms (pc + 1) lv (.ref x :: .ref x :: stk)) : KK X nL E n mc ms pc lv (.ref x :: stk) :=
  fun H locs ls hP hS h => lv_dup C.1 C.2.1 hdg rfl (k H locs ls hP hS h)
theorem k_astore_n (C : kC X cc nL own R) {j : Fin 4} {x : Nat} {lv' : List (Nat × Value)} (hdg : decode cc pc = .ok (.astore_n j, 1)) (hn : (j : Nat) < nL) (hl : ((j : Nat), Value.ref x) :: lv.filter (fun q => !(q.1 == (j : Nat)) && !(q.1 + 1 == (j : Nat) && q.2.category == 2)) = lv') (k : KK X nL E n mc ms (pc + 1) lv' stk) : KK X nL E n mc ms pc lv (.ref x :: stk) :=
  fun H locs _ hP hS h => lv_astore_n C.1 C.2.1 hdg rfl h hn hl (fun ls h => k H locs ls hP hS h)
theorem k_istore_n (C : kC X cc nL own R) {j : Fin 4} {x : Int32} {lv' : List (Nat × Value)} (hdg : decode cc pc = .ok (.istore_n j, 1)) (hn : (j : Nat) < nL) (hl : ((j : Nat), Value.int x) :: lv.filter (fun q => !(q.1 == (j : Nat)) && !(q.1 + 1 == (j : Nat) && q.2.category == 2)) = lv') (k : KK X nL E n mc ms (pc + 1) lv' stk) : KK X nL E n mc ms pc lv (.int x :: stk) :=
  fun H locs _ hP hS h => lv_istore_n C.1 C.2.1 hdg rfl h hn hl (fun ls h => k H locs ls hP hS h)
theorem k_objInit (C : kC X cc nL own R) {idx : Nat} (hl : Cond.methodLink own idx objectInit ∈ gB) {a : Nat} (hdg : decode cc pc = .ok (.invokespecial idx, 3)) (hR : 1 ≤ R.frames ∧ 12 ≤ R.locals) (k : KK X nL E n mc ms (pc + 3) lv []) : KK X nL E n mc ms pc lv [.ref a] := by
  have hRR : XR X = R := C.2.2.2.2.2.2.2.2.2.1
  exact fun H locs ls hP hS h => W.objInit C.1 C.2.1 C.2.2.2.1 (C.2.2.2.2.1 _ hl) (C.2.2.2.2.1 _ wim_20) (C.2.2.2.2.1 _ wcd_21) rfl (h.1.trans C.2.2.1.symm) rfl hdg (by rw [hRR]; exact hR.1) (by rw [hRR]; exact hR.2) (k H locs ls hP hS h)
theorem k_newa (C : kC X cc nL own R) {at' : ArrayType} {ty : FieldType} (t N : Nat) {v : Int32} (hty : newarray.typeOf at' = ty) (harr : Cond.arrayClass ty ∈ gB) (ht : (g_tys (XG X))[t]? = some ((XG X).2.1 t, ty)) (hra : ∀ (U : State) (cA : ClassId), va_RA U cA ty → U.vm.findClass ("[" ++ ty.toString) = some cA) (hE : E n = k_aZ ((XG X).2.1 t) N) (hd : defaultValue ty = .int 0) (hv : ¬ v < 0) (hN : v.toNatClampNeg = N) (hb : N * componentBytes ty ≤ 536870912) (hdg : decode cc pc = .ok (.newarray at', 2)) (hR : mc + 1 ≤ R.cells ∧ ms + N ≤ R.slots)
    (k : KK X nL E (n + 1) (mc + 1) (ms + N) (pc + 2) lv (.ref (Xd X n) :: stk)) : KK X nL E n mc ms pc lv (.int v :: stk) := by
  subst hty
  have hRR : XR X = R := C.2.2.2.2.2.2.2.2.2.1
  intro H locs ls hP hS h
  refine va_newaK C.1 C.2.1 (C.2.2.2.2.1 _ harr) rfl hdg rfl hv hN hb (by rw [hRR]; exact hR.1) (by rw [hRR]; exact hR.2) hP.1 fun H1 cA e1 z1 o1 _ hNm => ?_
  rw [← hP.1] at z1 o1
  have hc : (XG X).2.1 t = cA := Option.some.inj ((hra _ _ (C.2.2.2.2.2.1.2 t _ ht).2).symm.trans hNm)
  refine k H1 locs ls (kx_push C.2.2.2.2.2.2.1 hP z1 o1 ?_) ⟨Nat.le_trans hS.1 (by omega), fun x h1 h2 => (o1 x (Nat.lt_of_lt_of_le h1 hS.1)).trans (hS.2.1 x h1 h2), hS.2.2⟩ h
  rw [hE, hc]
  show H1[(XG X).2.2 n]? = some (arrV cA N (fun _ => .int 0))
  rw [e1, hd]
theorem k_new (C : kC X cc nL own R) (ci : Nat) {C0 : String} {T : u_T} {N index : Nat} {fs : List Value} (hc : vwCl[ci]? = some (C0, T, N)) (ty : Nat → FieldType) (hty : ∀ k, k < N → parseFieldDescriptor (T k).2.2.1 = some (ty k)) (hin : ∀ w ∈ u_ws C0 T N, w ∈ gB) (hcl : Cond.classLink own index C0 ∈ gB) (hinst : Cond.instantiable C0 N ∈ gB) (hini : Cond.initialized C0 ∈ gB) (hfs : ∀ j, j < N → defaultValue (ty j) = vp_V fs j) (hdg : decode cc pc = .ok (.new index, 3)) (hR : mc + 1 ≤ R.cells ∧ ms + N ≤ R.slots)
    (k : KK X nL (k_up E n (.inr (ci, fs))) (n + 1) (mc + 1) (ms + N) (pc + 3) lv (.ref (Xd X n) :: stk)) : KK X nL E n mc ms pc lv stk := by
  have hRR : XR X = R := C.2.2.2.2.2.2.2.2.2.1
  intro H locs ls hP hS h
  have hKn := C.2.2.2.2.2.1.1 ci _ hc
  refine W.newcK C.1 C.2.1 C.2.2.2.1 (C.2.2.2.2.1 _ hcl) (C.2.2.2.2.1 _ hinst) (C.2.2.2.2.1 _ hini) rfl hdg (by rw [hRR]; exact hR.1) (by rw [hRR]; exact hR.2) hKn.2.1 hP.1 fun H1 kC hkC e1 z1 o1 => ?_
  rw [← hP.1] at z1 o1
  refine k H1 locs ls (kx_push C.2.2.2.2.2.2.1 (kx_ext hP fun r hr => (k_up_ne _ _ (by omega)).symm) z1 o1 ?_) ⟨Nat.le_trans hS.1 (by omega), fun x h1 h2 => (o1 x (Nat.lt_of_lt_of_le h1 hS.1)).trans (hS.2.1 x h1 h2), hS.2.2⟩ h
  rw [k_up_self]
  exact ⟨_, hc, (u_born ty C.2.2.2.2.1 hin hKn hkC e1 hty).to hfs⟩
theorem k_ext {E' : Nat → va_E} (he : ∀ r : Nat, r < n → E r = E' r) (k : KK X nL E' n mc ms pc lv stk) : KK X nL E n mc ms pc lv stk :=
  fun H locs ls hP hS h => k H locs ls (kx_ext hP he) hS h
theorem k_putF (C : kC X cc nL own R) (hnm0 : (Xt X).name = "<init>") (ci k : Nat) {C0 : String} {T : u_T} {N index r : Nat} {fs fs' : List Value} {v : Value} {ty : FieldType} (hr : r < n) (hc : vwCl[ci]? = some (C0, T, N)) (hk : k < N) (ty0 : Nat → FieldType) (hty : ∀ k, k < N → parseFieldDescriptor (T k).2.2.1 = some (ty0 k)) (hnm : ∀ a, a < N → ∀ b, b < N → a ≠ b → (T a).2.1 ≠ (T b).2.1) (hin : ∀ w ∈ u_ws C0 T N, w ∈ gB) (hlink : Cond.fieldLink own index (T k).1 (T k).2.1 (T k).2.2.1 ∈ gB) (hfin : (T k).2.2.2 = true) (hdecl : (T k).1 = own) (hd : parseFieldDescriptor (T k).2.2.1 = some ty) (hn : narrow ty v = v) (hfit : fits ty v = true) (hl : k < fs.length) (hset : fs.set k v = fs') (hdg : decode cc pc = .ok (.putfield index, 3))
    (kk : KK X nL (k_up E r (.inr (ci, fs'))) n mc ms (pc + 3) lv stk) : KK X nL (k_up E r (.inr (ci, fs))) n mc ms pc lv (v :: .ref (Xd X r) :: stk) := by
  subst hset
  intro H locs ls hP hS h
  have hap := va_apart (own := own) C.2.2.2.2.1 hin ty0 hty hnm C.2.2.2.2.2.1 hc
  have hPr := hP.2 r hr
  rw [k_up_self] at hPr
  obtain ⟨rr, h1, cell, q1, q2, q3, q4⟩ := hPr
  have hr' : rr = (C0, T, N) := Option.some.inj (h1.symm.trans hc)
  subst hr'
  obtain ⟨hS0, hfc, kC, hkC, hkind⟩ := C.2.2.2.2.2.1.1 ci _ hc
  obtain ⟨cf, kf, fi, f, hi, hsl⟩ := hS0 k hk
  have hlay := C.2.2.2.2.1 _ (hin _ (u_in_lay hk))
  unfold u_lay at hlay
  rw [if_pos hfin] at hlay
  have hst := (u_facts hfc hkC (u_lays C.2.2.2.2.1 hin hk) hi).1
  have hcf : (Xm X).cls = cf := by
    obtain ⟨_, _, c', _, _, _, -, -, hf', -, -, -, hown2, -⟩ := Cond.laysFinal_spec hlay
    have e1 : c' = cf := by have := hi.symm.trans hf'; simp at this; exact this.1.symm
    rw [hdecl] at hown2
    rw [← e1]; exact Option.some.inj (C.2.2.2.1.symm.trans hown2)
  have h6 := u_fits hfc hkC hkind (Or.inr hlay) hi hd hn hfit
  refine W.putFinK C.1 C.2.1 C.2.2.2.1 (C.2.2.2.2.1 _ hlink) hi hst hcf hnm0 (by rw [q2]; exact h6) q1 q3 (by rw [hsl]; exact k2_hasslot (q4 k hk)) rfl rfl hdg fun H' e1 e2 e3 => ?_
  rw [hsl] at e1 ⊢
  have hx := kx_set (E := k_up E r (.inr (ci, fs))) (e := .inr (ci, fs.set k v)) C.2.2.2.2.2.2.1 hP e2 e3 ⟨_, hc, t_OB.to (V := updV (vp_V fs) k v) ⟨_, e1, q2, q3, t_set q4 hap hk v⟩ (fun j _ => vp_updV_set hl v j)⟩
  refine kk H' _ ls (kx_ext hx fun q _ => ?_) (hS.put e2 e3 (C.2.2.2.2.2.2.2.1 _ (by show (XG X).2.2 0 ≤ (XG X).2.2 r; rw [C.2.2.2.2.2.2.1 r]; omega))) h
  by_cases e : q = r
  · subst e
    rw [k_up_self, k_up_self]
  · rw [k_up_ne _ _ e, k_up_ne _ _ e, k_up_ne _ _ e]
theorem k_put (C : kC X cc nL own R) (ci k : Nat) {C0 : String} {T : u_T} {N index r : Nat} {fs fs' : List Value} {v : Value} {ty : FieldType} (hr : r < n) (hc : vwCl[ci]? = some (C0, T, N)) (hk : k < N) (ty0 : Nat → FieldType) (hty : ∀ k, k < N → parseFieldDescriptor (T k).2.2.1 = some (ty0 k)) (hnm : ∀ a, a < N → ∀ b, b < N → a ≠ b → (T a).2.1 ≠ (T b).2.1) (hin : ∀ w ∈ u_ws C0 T N, w ∈ gB) (hlink : Cond.fieldLink own index (T k).1 (T k).2.1 (T k).2.2.1 ∈ gB) (hfin : (T k).2.2.2 = false) (hd : parseFieldDescriptor (T k).2.2.1 = some ty) (hn : narrow ty v = v) (hfit : fits ty v = true) (hl : k < fs.length) (hset : fs.set k v = fs') (hdg : decode cc pc = .ok (.putfield index, 3))
    (kk : KK X nL (k_up E r (.inr (ci, fs'))) n mc ms (pc + 3) lv stk) : KK X nL (k_up E r (.inr (ci, fs))) n mc ms pc lv (v :: .ref (Xd X r) :: stk) := by
  subst hset
  intro H locs ls hP hS h
  have hap := va_apart (own := own) C.2.2.2.2.1 hin ty0 hty hnm C.2.2.2.2.2.1 hc
  have hPr := hP.2 r hr
  rw [k_up_self] at hPr
  obtain ⟨rr, h1, cell, q1, q2, q3, q4⟩ := hPr
  have hr' : rr = (C0, T, N) := Option.some.inj (h1.symm.trans hc)
  subst hr'
  obtain ⟨hS0, hfc, kC, hkC, hkind⟩ := C.2.2.2.2.2.1.1 ci _ hc
  obtain ⟨cf, kf, fi, f, hi, hsl⟩ := hS0 k hk
  have hlay := C.2.2.2.2.1 _ (hin _ (u_in_lay hk))
  unfold u_lay at hlay
  rw [if_neg (by rw [hfin]; decide)] at hlay
  have hst := (u_facts hfc hkC (u_lays C.2.2.2.2.1 hin hk) hi).1
  have h6 := u_store hfc hkC hkind hlay hi hd hn hfit
  refine W.putK C.1 C.2.1 (f := f) ⟨C.2.2.2.1, C.2.2.2.2.1 _ hlink, ⟨_, _, _, hi⟩, hst⟩ (by rw [q2]; exact h6) q1 q3 (by rw [hsl]; exact k2_hasslot (q4 k hk)) rfl rfl hdg fun H' e1 e2 e3 => ?_
  rw [hsl] at e1 ⊢
  have hx := kx_set (E := k_up E r (.inr (ci, fs))) (e := .inr (ci, fs.set k v)) C.2.2.2.2.2.2.1 hP e2 e3 ⟨_, hc, t_OB.to (V := updV (vp_V fs) k v) ⟨_, e1, q2, q3, t_set q4 hap hk v⟩ (fun j _ => vp_updV_set hl v j)⟩
  refine kk H' _ ls (kx_ext hx fun q _ => ?_) (hS.put e2 e3 (C.2.2.2.2.2.2.2.1 _ (by show (XG X).2.2 0 ≤ (XG X).2.2 r; rw [C.2.2.2.2.2.2.1 r]; omega))) h
  by_cases e : q = r
  · subst e
    rw [k_up_self, k_up_self]
  · rw [k_up_ne _ _ e, k_up_ne _ _ e, k_up_ne _ _ e]
theorem k_getf (C : kC X cc nL own R) (ci k : Nat) {C0 : String} {T : u_T} {N index r : Nat} {fs : List Value} {v : Value} (hr : r < n) (hE : E r = .inr (ci, fs)) (hc : vwCl[ci]? = some (C0, T, N)) (hk : k < N) (hin : ∀ w ∈ u_ws C0 T N, w ∈ gB) (hlink : Cond.fieldLink own index (T k).1 (T k).2.1 (T k).2.2.1 ∈ gB) (hv : fs[k]? = some v) (hdg : decode cc pc = .ok (.getfield index, 3)) (kk : KK X nL E n mc ms (pc + 3) lv (v :: stk)) : KK X nL E n mc ms pc lv (.ref (Xd X r) :: stk) := by
  intro H locs ls hP hS h
  have hPr := hP.2 r hr
  rw [hE] at hPr
  refine va_get (ws := [(Xd X r, .inr (ci, fs))]) C.1 C.2.1 C.2.2.2.2.1 hin C.2.2.2.1 C.2.2.2.2.2.1 (fun k q hk => ?_) 0 rfl hc k hk (C.2.2.2.2.1 _ hlink) (fun _ h => h) hv hdg (kk H locs ls hP hS h)
  have hz : k < 1 := (List.getElem?_eq_some_iff.mp hk).1
  rw [show k = 0 by omega] at hk
  cases hk
  exact hPr
/-- the place after the return -/
theorem k_ret (C : kC X cc nL own R) {E' : Nat → va_E} {n' mc ms : Nat} (hQ : kQ X R E' n') (hn : n = n') (he : ∀ r : Nat, r < n → E r = E' r) (hmc : mc = R.cells) (hms : ms = R.slots) (hdg : decode cc pc = .ok (.return_, 1)) : KK X nL E n mc ms pc lv [] := by
  subst hn; subst hmc; subst hms
  intro H locs ls hP hS hl
  obtain ⟨q1, q2, q3, q4⟩ := hQ
  rw [q1]
  rw [q4] at hS
  exact W.vret C.1 C.2.1 q2 (fun t ht _ => ⟨⟨(), rfl, trivial, (by show kx _ _ _ t.heap; rw [ht]; exact kx_ext hP he)⟩, hS.F ht⟩) hS.2.2 hdg q3
/-- a constructor is called: over the nest, and plainly -/
theorem k_callN (C : kC X cc nL own R) {y : MethodName} {b : ByteArray} {m index : Nat} (na : Nat) {host : String} {rm : Room} (As : List Value) {r : Nat} {E' : Nat → va_E} {n' : Nat} (hM : kM (Xl X) (XG X) y b m rm (.ref (Xd X r) :: As) E n E' n') (hl : Cond.methodLinkNest own index y host ∈ gNw) (hin : Cond.instanceMethod y ∈ gB) (hini : Cond.initialized y.cls ∈ gB) (hcode : Cond.code y b m none ∈ gB) (hy : y.name = "<init>")
    (hd : y.cls ≠ "java/lang/invoke/MethodHandle" ∧ y.cls ≠ "java/lang/invoke/VarHandle" ∧ (parseMethodDescriptor y.desc).map (fun d => d.parameters.length) = some na) (hR : rm.frames + 1 ≤ R.frames ∧ 8 + (m + 11) + rm.locals ≤ R.locals) (hRc : mc + rm.cells ≤ R.cells ∧ ms + rm.slots ≤ R.slots) (hn : As.length = na) {st0 : List Value} (hst : st0 = As.reverse ++ .ref (Xd X r) :: stk) (hW : (stk.map fun v => v.category).sum ≤ 8) (hdg : decode cc pc = .ok (.invokespecial index, 3))
    (kk : KK X nL E' n' (mc + rm.cells) (ms + rm.slots) (pc + 3) lv stk) : KK X nL E n mc ms pc lv st0 := by
  have hRR : XR X = R := C.2.2.2.2.2.2.2.2.2.1
  have hN : g_N (Xs X) := C.2.2.2.2.2.2.2.2.1
  have hK : va_K (XG X).1 vwCl (g_tys (XG X)) (Xs X) := C.2.2.2.2.2.1
  have hO : kO (XG X) (Xs X) := C.2.2.2.2.2.2.2.2.2.2
  intro H locs ls hP hS h
  have hrun := va_runIN (As := As) (rest := stk) (n := na) (Ts := gB) (H := H) (locs := locs) (cells := mc) (slots := ms) (g := F0 (Xm X) pc ls st0) (e := Xe X) (p := Xp X) (below := Xb X) (meth := Xt X) (R := XR X) ⟨C.1, C.2.1, C.2.2.1, C.2.2.2.1, C.2.2.2.2.1⟩ hM ⟨va_cnB na C.2.2.2.2.1 (g_good fun w hw => by
      rcases List.mem_cons.mp hw with rfl | h2
      · exact hcode
      · exact h2) rfl rfl rfl (hN _ hl) (C.2.2.2.2.1 _ hini) hd (by rw [hRR]; exact hR), hy, C.2.2.2.2.1 _ hin⟩ ⟨k_blind _ _ _ _, fun U hU hW => ⟨rfl, by rw [hU]; exact hP, va_K.moved hW.alike hK, g_N_warm hW hN, kO.moved hW.alike hO⟩⟩ rfl hn h.1 hst (lv_room hW) hdg (by rw [hRR]; exact hRc)
  exact va_callv hrun hS (fun q _ h => C.2.2.2.2.2.2.2.1 q h) (fun q h => C.2.2.2.2.2.2.2.1 q h) (fun u t H1 l1 ht _ _ hB _ _ hS1 => kk H1 l1 ls (by rw [← ht]; exact hB) hS1 h)
theorem k_callI (C : kC X cc nL own R) {y : MethodName} {b : ByteArray} {m index : Nat} (na : Nat) {rm : Room} (As : List Value) {r : Nat} {E' : Nat → va_E} {n' : Nat} (hM : kM (Xl X) (XG X) y b m rm (.ref (Xd X r) :: As) E n E' n') (hl : Cond.methodLink own index y ∈ gB) (hin : Cond.instanceMethod y ∈ gB) (hini : Cond.initialized y.cls ∈ gB) (hcode : Cond.code y b m none ∈ gB) (hy : y.name = "<init>")
    (hd : y.cls ≠ "java/lang/invoke/MethodHandle" ∧ y.cls ≠ "java/lang/invoke/VarHandle" ∧ (parseMethodDescriptor y.desc).map (fun d => d.parameters.length) = some na) (hR : rm.frames + 1 ≤ R.frames ∧ 8 + (m + 11) + rm.locals ≤ R.locals) (hRc : mc + rm.cells ≤ R.cells ∧ ms + rm.slots ≤ R.slots) (hn : As.length = na) {st0 : List Value} (hst : st0 = As.reverse ++ .ref (Xd X r) :: stk) (hW : (stk.map fun v => v.category).sum ≤ 8) (hdg : decode cc pc = .ok (.invokespecial index, 3))
    (kk : KK X nL E' n' (mc + rm.cells) (ms + rm.slots) (pc + 3) lv stk) : KK X nL E n mc ms pc lv st0 := by
  have hRR : XR X = R := C.2.2.2.2.2.2.2.2.2.1
  have hN : g_N (Xs X) := C.2.2.2.2.2.2.2.2.1
  have hK : va_K (XG X).1 vwCl (g_tys (XG X)) (Xs X) := C.2.2.2.2.2.1
  have hO : kO (XG X) (Xs X) := C.2.2.2.2.2.2.2.2.2.2
  intro H locs ls hP hS h
  have hrun := va_runI (As := As) (rest := stk) (n := na) (Ts := gB) (H := H) (locs := locs) (cells := mc) (slots := ms) (g := F0 (Xm X) pc ls st0) (e := Xe X) (p := Xp X) (below := Xb X) (meth := Xt X) (R := XR X) ⟨C.1, C.2.1, C.2.2.1, C.2.2.2.1, C.2.2.2.2.1⟩ hM (cwI na C.2.2.2.2.1 (g_good fun w hw => by
      rcases List.mem_cons.mp hw with rfl | h2
      · exact hcode
      · exact h2) rfl rfl rfl (C.2.2.2.2.1 _ hini) (C.2.2.2.2.1 _ hl) (C.2.2.2.2.1 _ hin) hy hd (by rw [hRR]; exact hR)) ⟨k_blind _ _ _ _, fun U hU hW => ⟨rfl, by rw [hU]; exact hP, va_K.moved hW.alike hK, g_N_warm hW hN, kO.moved hW.alike hO⟩⟩ rfl hn h.1 hst (lv_room hW) hdg (by rw [hRR]; exact hRc)
  exact va_callv hrun hS (fun q _ h => C.2.2.2.2.2.2.2.1 q h) (fun q h => C.2.2.2.2.2.2.2.1 q h) (fun u t H1 l1 ht _ _ hB _ _ hS1 => kk H1 l1 ls (by rw [← ht]; exact hB) hS1 h)
end KR
