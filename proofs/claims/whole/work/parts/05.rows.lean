/-! THE ROWS over a state: what a frame is (code place, locals, stack) and how each instruction turns it -/
/-- what stays the same while a method runs: program, launch, env, room, start, method, arguments, frames below, its record, its code, cells and slots spent, the goal, the world's numbers, what may be written -/
abbrev gX : Type := Program × Launch × Env × Room × State × MethodId × Array Value × List Frame × Method × Code × (Nat × Nat) × (State → Prop) × gW × (Nat → Prop)
abbrev Xp (X : gX) : Program := X.1
abbrev Xl (X : gX) : Launch := X.2.1
abbrev Xe (X : gX) : Env := X.2.2.1
abbrev XR (X : gX) : Room := X.2.2.2.1
abbrev Xs (X : gX) : State := X.2.2.2.2.1
abbrev Xm (X : gX) : MethodId := X.2.2.2.2.2.1
abbrev Xa (X : gX) : Array Value := X.2.2.2.2.2.2.1
abbrev Xb (X : gX) : List Frame := X.2.2.2.2.2.2.2.1
abbrev Xt (X : gX) : Method := X.2.2.2.2.2.2.2.2.1
abbrev Xc (X : gX) : Code := X.2.2.2.2.2.2.2.2.2.1
abbrev Xk (X : gX) : Nat × Nat := X.2.2.2.2.2.2.2.2.2.2.1
abbrev XQ (X : gX) : State → Prop := X.2.2.2.2.2.2.2.2.2.2.2.1
abbrev XG (X : gX) : gW := X.2.2.2.2.2.2.2.2.2.2.2.2.1
abbrev XA (X : gX) : Nat → Prop := X.2.2.2.2.2.2.2.2.2.2.2.2.2
/-- the heap holds the state -/
def g_at (G : gW) (σ : sg) (H : Heap) : Prop := va_P G.1 vwCl (g_ws G σ) H
/-- at code place pc, with these locals and this stack, in this state, the run comes to the goal -/
def G (X : gX) (nL : Nat) (σ : sg) (pc : Nat) (lv : List (Nat × Value)) (stk : List Value) : Prop :=
  ∀ (H : Heap) (locs : List Loc) (ls : Array Slot), g_at (XG X) σ H → va_S (XA X) (Xs X).heap H locs → lv_has ls nL lv → W (Xp X) (Xl X) (Xe X) (XR X) (Xs X) (Xm X) (Xa X) (Xb X) (Xt X) (Xc X) H locs (Xk X).1 (Xk X).2 (XQ X) (F0 (Xm X) pc ls stk)
/-- the nest words hold -/
def g_N (U : State) : Prop := ∀ w ∈ gNw, va_Nw w U
/-- what holds of a method's frame all along: the machine, its code, its class, the tables' words, no lock, the classes, the addresses apart, what may be written, room left, its return type, the nest words, its room -/
def gC (X : gX) (cc : ByteArray) (nL : Nat) (own : String) (ret : Option FieldType) (R : Room) : Prop :=
  (Xp X).tables.exec = Jvm.exec ∧ (Xc X).code = cc ∧ (Xc X).maxLocals = nL ∧ (Xs X).vm.findClass own = some (Xm X).cls ∧ (∀ w ∈ gB, w.before (Xa X) (Xs X) = true) ∧ (Xt X).locks = false ∧ va_K (XG X).1 vwCl (g_tys (XG X)) (Xs X) ∧ g_I (XG X) ∧ (∀ r : Nat, r < 737 → (XA X) ((XG X).2.2 r)) ∧ ((Xk X).1 ≤ (XR X).cells ∧ (Xk X).2 ≤ (XR X).slots) ∧ (Xt X).sig.returnType = ret ∧ g_N (Xs X) ∧ XR X = R
/-- an address -/
abbrev Xd (X : gX) (r : Nat) : Nat := (XG X).2.2 r
section GR
variable {X : gX} {cc : ByteArray} {nL pc : Nat} {own : String} {ret : Option FieldType} {R : Room} {σ : sg} {lv : List (Nat × Value)} {stk : List Value} {α : Type} {res : α}
theorem g_iconst (C : gC X cc nL own ret R) {n : Int} {v : Int32} (hdg : decode cc pc = .ok (.iconst n, 1)) (hv : Int32.ofInt n = v) (k : G X nL σ (pc + 1) lv (.int v :: stk)) : G X nL σ pc lv stk :=
  fun H locs ls hP hS hl => lv_iconst C.1 C.2.1 hdg hv (k H locs ls hP hS hl)
theorem g_bipush (C : gC X cc nL own ret R) {n : Int} {v : Int32} (hdg : decode cc pc = .ok (.bipush n, 2)) (hv : (Int8.ofInt n).toInt32 = v) (k : G X nL σ (pc + 2) lv (.int v :: stk)) : G X nL σ pc lv stk :=
  fun H locs ls hP hS hl => lv_bipush C.1 C.2.1 hdg hv (k H locs ls hP hS hl)
theorem g_sipush (C : gC X cc nL own ret R) {n : Int} {v : Int32} (hdg : decode cc pc = .ok (.sipush n, 3)) (hv : (Int16.ofInt n).toInt32 = v) (k : G X nL σ (pc + 3) lv (.int v :: stk)) : G X nL σ pc lv stk :=
  fun H locs ls hP hS hl => lv_sipush C.1 C.2.1 hdg hv (k H locs ls hP hS hl)
theorem g_iload_n (C : gC X cc nL own ret R) {j : Fin 4} {x : Int32} (i : Nat) (hdg : decode cc pc = .ok (.iload_n j, 1)) (hl : lv[i]? = some ((j : Nat), .int x)) (k : G X nL σ (pc + 1) lv (.int x :: stk)) : G X nL σ pc lv stk :=
  fun H locs ls hP hS h => lv_iload_n C.1 C.2.1 hdg rfl (lv_at h i hl) (k H locs ls hP hS h)
theorem g_iload (C : gC X cc nL own ret R) {j : Nat} {x : Int32} (i : Nat) (hdg : decode cc pc = .ok (.iload j, 2)) (hl : lv[i]? = some (j, .int x)) (k : G X nL σ (pc + 2) lv (.int x :: stk)) : G X nL σ pc lv stk :=
  fun H locs ls hP hS h => lv_iload C.1 C.2.1 hdg (lv_at h i hl) (k H locs ls hP hS h)
theorem g_aload_n (C : gC X cc nL own ret R) {j : Fin 4} {x : Nat} (i : Nat) (hdg : decode cc pc = .ok (.aload_n j, 1)) (hl : lv[i]? = some ((j : Nat), .ref x)) (k : G X nL σ (pc + 1) lv (.ref x :: stk)) : G X nL σ pc lv stk :=
  fun H locs ls hP hS h => lv_aload_n C.1 C.2.1 hdg rfl (lv_at h i hl) (k H locs ls hP hS h)
theorem g_aload (C : gC X cc nL own ret R) {j : Nat} {x : Nat} (i : Nat) (hdg : decode cc pc = .ok (.aload j, 2)) (hl : lv[i]? = some (j, .ref x)) (k : G X nL σ (pc + 2) lv (.ref x :: stk)) : G X nL σ pc lv stk :=
  fun H locs ls hP hS h => lv_aload C.1 C.2.1 hdg (lv_at h i hl) (k H locs ls hP hS h)
theorem g_istore_n (C : gC X cc nL own ret R) {j : Fin 4} {x : Int32} {lv' : List (Nat × Value)} (hdg : decode cc pc = .ok (.istore_n j, 1)) (hn : (j : Nat) < nL) (hl : ((j : Nat), Value.int x) :: lv.filter (fun q => !(q.1 == (j : Nat)) && !(q.1 + 1 == (j : Nat) && q.2.category == 2)) = lv') (k : G X nL σ (pc + 1) lv' stk) : G X nL σ pc lv (.int x :: stk) :=
  fun H locs _ hP hS h => lv_istore_n C.1 C.2.1 hdg rfl h hn hl (fun ls h => k H locs ls hP hS h)
theorem g_istore (C : gC X cc nL own ret R) {j : Nat} {x : Int32} {lv' : List (Nat × Value)} (hdg : decode cc pc = .ok (.istore j, 2)) (hn : j < nL) (hl : (j, Value.int x) :: lv.filter (fun q => !(q.1 == j) && !(q.1 + 1 == j && q.2.category == 2)) = lv') (k : G X nL σ (pc + 2) lv' stk) : G X nL σ pc lv (.int x :: stk) :=
  fun H locs _ hP hS h => lv_istore C.1 C.2.1 hdg h hn hl (fun ls h => k H locs ls hP hS h)
theorem g_astore_n (C : gC X cc nL own ret R) {j : Fin 4} {x : Nat} {lv' : List (Nat × Value)} (hdg : decode cc pc = .ok (.astore_n j, 1)) (hn : (j : Nat) < nL) (hl : ((j : Nat), Value.ref x) :: lv.filter (fun q => !(q.1 == (j : Nat)) && !(q.1 + 1 == (j : Nat) && q.2.category == 2)) = lv') (k : G X nL σ (pc + 1) lv' stk) : G X nL σ pc lv (.ref x :: stk) :=
  fun H locs _ hP hS h => lv_astore_n C.1 C.2.1 hdg rfl h hn hl (fun ls h => k H locs ls hP hS h)
theorem g_astore (C : gC X cc nL own ret R) {j : Nat} {x : Nat} {lv' : List (Nat × Value)} (hdg : decode cc pc = .ok (.astore j, 2)) (hn : j < nL) (hl : (j, Value.ref x) :: lv.filter (fun q => !(q.1 == j) && !(q.1 + 1 == j && q.2.category == 2)) = lv') (k : G X nL σ (pc + 2) lv' stk) : G X nL σ pc lv (.ref x :: stk) :=
  fun H locs _ hP hS h => lv_astore C.1 C.2.1 hdg h hn hl (fun ls h => k H locs ls hP hS h)
theorem g_iinc (C : gC X cc nL own ret R) {j : Nat} {n : Int} {x v : Int32} {lv' : List (Nat × Value)} (i : Nat) (hdg : decode cc pc = .ok (.iinc j n, 3)) (hk : lv[i]? = some (j, .int x)) (hv : x + Int32.ofInt n = v) (hn : j < nL) (hl : (j, Value.int v) :: lv.filter (fun q => !(q.1 == j) && !(q.1 + 1 == j && q.2.category == 2)) = lv') (k : G X nL σ (pc + 3) lv' stk) : G X nL σ pc lv stk :=
  fun H locs _ hP hS h => lv_iinc C.1 C.2.1 hdg h hk hv hn hl (fun ls h => k H locs ls hP hS h)
theorem g_iadd (C : gC X cc nL own ret R) {x y : Int32} (hdg : decode cc pc = .ok (.iadd, 1)) (k : G X nL σ (pc + 1) lv (.int (x + y) :: stk)) : G X nL σ pc lv (.int y :: .int x :: stk) :=
  fun H locs ls hP hS hl => lv_iadd C.1 C.2.1 hdg (k H locs ls hP hS hl)
theorem g_isub (C : gC X cc nL own ret R) {x y : Int32} (hdg : decode cc pc = .ok (.isub, 1)) (k : G X nL σ (pc + 1) lv (.int (x - y) :: stk)) : G X nL σ pc lv (.int y :: .int x :: stk) :=
  fun H locs ls hP hS hl => lv_isub C.1 C.2.1 hdg (k H locs ls hP hS hl)
theorem g_imul (C : gC X cc nL own ret R) {x y : Int32} (hdg : decode cc pc = .ok (.imul, 1)) (k : G X nL σ (pc + 1) lv (.int (x * y) :: stk)) : G X nL σ pc lv (.int y :: .int x :: stk) :=
  fun H locs ls hP hS hl => lv_imul C.1 C.2.1 hdg (k H locs ls hP hS hl)
theorem g_iand (C : gC X cc nL own ret R) {x y : Int32} (hdg : decode cc pc = .ok (.iand, 1)) (k : G X nL σ (pc + 1) lv (.int (x &&& y) :: stk)) : G X nL σ pc lv (.int y :: .int x :: stk) :=
  fun H locs ls hP hS hl => lv_iand C.1 C.2.1 hdg (k H locs ls hP hS hl)
theorem g_ior (C : gC X cc nL own ret R) {x y : Int32} (hdg : decode cc pc = .ok (.ior, 1)) (k : G X nL σ (pc + 1) lv (.int (x ||| y) :: stk)) : G X nL σ pc lv (.int y :: .int x :: stk) :=
  fun H locs ls hP hS hl => lv_ior C.1 C.2.1 hdg (k H locs ls hP hS hl)
theorem g_ixor (C : gC X cc nL own ret R) {x y : Int32} (hdg : decode cc pc = .ok (.ixor, 1)) (k : G X nL σ (pc + 1) lv (.int (x ^^^ y) :: stk)) : G X nL σ pc lv (.int y :: .int x :: stk) :=
  fun H locs ls hP hS hl => lv_ixor C.1 C.2.1 hdg (k H locs ls hP hS hl)
theorem g_ishl (C : gC X cc nL own ret R) {x y : Int32} (hdg : decode cc pc = .ok (.ishl, 1)) (k : G X nL σ (pc + 1) lv (.int (x <<< (y &&& 31)) :: stk)) : G X nL σ pc lv (.int y :: .int x :: stk) :=
  fun H locs ls hP hS hl => lv_ishl C.1 C.2.1 hdg (k H locs ls hP hS hl)
theorem g_ishr (C : gC X cc nL own ret R) {x y : Int32} (hdg : decode cc pc = .ok (.ishr, 1)) (k : G X nL σ (pc + 1) lv (.int (x >>> (y &&& 31)) :: stk)) : G X nL σ pc lv (.int y :: .int x :: stk) :=
  fun H locs ls hP hS hl => lv_ishr C.1 C.2.1 hdg (k H locs ls hP hS hl)
def ushr (x y : Int32) : Int32 := (x.toUInt32 >>> (y.toUInt32 &&& Int32.toUInt32 31)).toInt32
theorem g_iushr (C : gC X cc nL own ret R) {x y : Int32} (hdg : decode cc pc = .ok (.iushr, 1)) (k : G X nL σ (pc + 1) lv (.int (ushr x y) :: stk)) : G X nL σ pc lv (.int y :: .int x :: stk) :=
  fun H locs ls hP hS hl => lv_iushr C.1 C.2.1 hdg rfl (k H locs ls hP hS hl)
theorem g_idiv (C : gC X cc nL own ret R) {x y : Int32} (hdg : decode cc pc = .ok (.idiv, 1)) (hne : ¬ y = 0) (k : G X nL σ (pc + 1) lv (.int (x / y) :: stk)) : G X nL σ pc lv (.int y :: .int x :: stk) :=
  fun H locs ls hP hS hl => lv_idiv C.1 C.2.1 hdg hne (k H locs ls hP hS hl)
theorem g_irem (C : gC X cc nL own ret R) {x y : Int32} (hdg : decode cc pc = .ok (.irem, 1)) (hne : ¬ y = 0) (k : G X nL σ (pc + 1) lv (.int (x - x / y * y) :: stk)) : G X nL σ pc lv (.int y :: .int x :: stk) :=
  fun H locs ls hP hS hl => lv_irem C.1 C.2.1 hdg hne (k H locs ls hP hS hl)
theorem g_i2l (C : gC X cc nL own ret R) {x : Int32} (hdg : decode cc pc = .ok (.i2l, 1)) (k : G X nL σ (pc + 1) lv (.long x.toInt64 :: stk)) : G X nL σ pc lv (.int x :: stk) :=
  fun H locs ls hP hS hl => lv_i2l C.1 C.2.1 hdg rfl (k H locs ls hP hS hl)
theorem g_lcmp (C : gC X cc nL own ret R) {x y : Int64} (hdg : decode cc pc = .ok (.lcmp, 1)) (k : G X nL σ (pc + 1) lv (.int (lg_cmp x y) :: stk)) : G X nL σ pc lv (.long y :: .long x :: stk) :=
  fun H locs ls hP hS hl => W.lcmp C.1 C.2.1 hdg (k H locs ls hP hS hl)
theorem g_ldc (C : gC X cc nL own ret R) {index : Nat} {v : Int32} (hc : Cond.constant own index v ∈ gB) (hdg : decode cc pc = .ok (.ldc index, 2)) (k : G X nL σ (pc + 2) lv (.int v :: stk)) : G X nL σ pc lv stk :=
  fun H locs ls hP hS hl => lv_ldc C.1 C.2.1 C.2.2.2.1 (C.2.2.2.2.1 _ hc) hdg (k H locs ls hP hS hl)
theorem g_ldcw (C : gC X cc nL own ret R) {index : Nat} {v : Int32} (hc : Cond.constant own index v ∈ gB) (hdg : decode cc pc = .ok (.ldc_w index, 3)) (k : G X nL σ (pc + 3) lv (.int v :: stk)) : G X nL σ pc lv stk :=
  fun H locs ls hP hS hl => lv_ldcw C.1 C.2.1 C.2.2.2.1 (C.2.2.2.2.1 _ hc) hdg (k H locs ls hP hS hl)
theorem g_ldc2 (C : gC X cc nL own ret R) {index : Nat} {v : Int64} (hc : Cond.constantLong own index v ∈ gB) (hdg : decode cc pc = .ok (.ldc2_w index, 3)) (k : G X nL σ (pc + 3) lv (.long v :: stk)) : G X nL σ pc lv stk :=
  fun H locs ls hP hS hl => lv_ldc2 C.1 C.2.1 C.2.2.2.1 (C.2.2.2.2.1 _ hc) hdg (k H locs ls hP hS hl)
theorem g_dup (C : gC X cc nL own ret R) {v : Value} (hdg : decode cc pc = .ok (.dup, 1)) (hv : v.category = 1) (k : G X nL σ (pc + 1) lv (v :: v :: stk)) : G X nL σ pc lv (v :: stk) :=
  fun H locs ls hP hS hl => lv_dup C.1 C.2.1 hdg hv (k H locs ls hP hS hl)
theorem g_dup2 (C : gC X cc nL own ret R) {v w : Value} (hdg : decode cc pc = .ok (.dup2, 1)) (hv : v.category = 1) (hw : w.category = 1) (k : G X nL σ (pc + 1) lv (v :: w :: v :: w :: stk)) : G X nL σ pc lv (v :: w :: stk) :=
  fun H locs ls hP hS hl => lv_dup2_11 C.1 C.2.1 hdg hv hw (k H locs ls hP hS hl)
theorem g_pop (C : gC X cc nL own ret R) {v : Value} (hdg : decode cc pc = .ok (.pop, 1)) (hv : v.category = 1) (k : G X nL σ (pc + 1) lv stk) : G X nL σ pc lv (v :: stk) :=
  fun H locs ls hP hS hl => lv_pop C.1 C.2.1 hdg hv (k H locs ls hP hS hl)
theorem g_goto (C : gC X cc nL own ret R) {off : Int} (tgt : Nat) (hdg : decode cc pc = .ok (.goto off, 3)) (ht : (pc : Int) + off = (tgt : Int)) (k : G X nL σ tgt lv stk) : G X nL σ pc lv stk :=
  fun H locs ls hP hS hl => lv_goto C.1 C.2.1 hdg ht (k H locs ls hP hS hl)
/-- fewer locals, in another order -/
theorem g_sub {lv' : List (Nat × Value)} (ks : List Nat) (h : lv_pick lv ks = lv') (k : G X nL σ pc lv' stk) : G X nL σ pc lv stk :=
  fun H locs ls hP hS hl => k H locs ls hP hS (lv_sub hl ks h)
theorem g_if {c : Prop} {i : Decidable c} {T E : Option α} (hf : (if c then T else E) = some res) {P : Prop} (k1 : T = some res → c → P) (k2 : E = some res → ¬ c → P) : P := by
  by_cases h : c
  · rw [if_pos h] at hf; exact k1 hf h
  · rw [if_neg h] at hf; exact k2 hf h
theorem g_bind {β : Type} {o : Option β} {f : β → Option α} (hf : o.bind f = some res) : ∃ v, o = some v ∧ f v = some res := by
  cases o with
  | none => cases hf
  | some v => exact ⟨v, rfl, hf⟩
theorem g_if_eq (C : gC X cc nL own ret R) {x : Int32} {off : Int} (tgt : Nat) {i : Decidable (x = 0)} {T E : Option α} (hf : (if x = 0 then T else E) = some res) (hdg : decode cc pc = .ok (.ifCond .eq off, 3)) (ht : (pc : Int) + off = (tgt : Int)) (k1 : T = some res → G X nL σ tgt lv stk) (k2 : E = some res → G X nL σ (pc + 3) lv stk) : G X nL σ pc lv (.int x :: stk) :=
  fun H locs ls hP hS hl => lv_if_eq C.1 C.2.1 hdg ht (fun c => k1 (by rw [if_pos c] at hf; exact hf) H locs ls hP hS hl) (fun c => k2 (by rw [if_neg c] at hf; exact hf) H locs ls hP hS hl)
theorem g_if_ne (C : gC X cc nL own ret R) {x : Int32} {off : Int} (tgt : Nat) {i : Decidable (x = 0)} {T E : Option α} (hf : (if x = 0 then T else E) = some res) (hdg : decode cc pc = .ok (.ifCond .ne off, 3)) (ht : (pc : Int) + off = (tgt : Int)) (k2 : T = some res → G X nL σ (pc + 3) lv stk) (k1 : E = some res → G X nL σ tgt lv stk) : G X nL σ pc lv (.int x :: stk) :=
  fun H locs ls hP hS hl => lv_if_ne C.1 C.2.1 hdg ht (fun c => k1 (by rw [if_neg c] at hf; exact hf) H locs ls hP hS hl) (fun c => k2 (by rw [if_pos c] at hf; exact hf) H locs ls hP hS hl)
theorem g_if_lt (C : gC X cc nL own ret R) {x : Int32} {off : Int} (tgt : Nat) {i : Decidable (x < 0)} {T E : Option α} (hf : (if x < 0 then T else E) = some res) (hdg : decode cc pc = .ok (.ifCond .lt off, 3)) (ht : (pc : Int) + off = (tgt : Int)) (k1 : T = some res → G X nL σ tgt lv stk) (k2 : E = some res → G X nL σ (pc + 3) lv stk) : G X nL σ pc lv (.int x :: stk) :=
  fun H locs ls hP hS hl => lv_if_lt C.1 C.2.1 hdg ht (fun c => k1 (by rw [if_pos c] at hf; exact hf) H locs ls hP hS hl) (fun c => k2 (by rw [if_neg c] at hf; exact hf) H locs ls hP hS hl)
theorem g_if_ge (C : gC X cc nL own ret R) {x : Int32} {off : Int} (tgt : Nat) {i : Decidable (0 ≤ x)} {T E : Option α} (hf : (if 0 ≤ x then T else E) = some res) (hdg : decode cc pc = .ok (.ifCond .ge off, 3)) (ht : (pc : Int) + off = (tgt : Int)) (k1 : T = some res → G X nL σ tgt lv stk) (k2 : E = some res → G X nL σ (pc + 3) lv stk) : G X nL σ pc lv (.int x :: stk) :=
  fun H locs ls hP hS hl => lv_if_ge C.1 C.2.1 hdg ht (fun c => k1 (by rw [if_pos c] at hf; exact hf) H locs ls hP hS hl) (fun c => k2 (by rw [if_neg c] at hf; exact hf) H locs ls hP hS hl)
theorem g_if_gt (C : gC X cc nL own ret R) {x : Int32} {off : Int} (tgt : Nat) {i : Decidable (0 < x)} {T E : Option α} (hf : (if 0 < x then T else E) = some res) (hdg : decode cc pc = .ok (.ifCond .gt off, 3)) (ht : (pc : Int) + off = (tgt : Int)) (k1 : T = some res → G X nL σ tgt lv stk) (k2 : E = some res → G X nL σ (pc + 3) lv stk) : G X nL σ pc lv (.int x :: stk) :=
  fun H locs ls hP hS hl => lv_if_gt C.1 C.2.1 hdg ht (fun c => k1 (by rw [if_pos c] at hf; exact hf) H locs ls hP hS hl) (fun c => k2 (by rw [if_neg c] at hf; exact hf) H locs ls hP hS hl)
theorem g_if_le (C : gC X cc nL own ret R) {x : Int32} {off : Int} (tgt : Nat) {i : Decidable (x ≤ 0)} {T E : Option α} (hf : (if x ≤ 0 then T else E) = some res) (hdg : decode cc pc = .ok (.ifCond .le off, 3)) (ht : (pc : Int) + off = (tgt : Int)) (k1 : T = some res → G X nL σ tgt lv stk) (k2 : E = some res → G X nL σ (pc + 3) lv stk) : G X nL σ pc lv (.int x :: stk) :=
  fun H locs ls hP hS hl => lv_if_le C.1 C.2.1 hdg ht (fun c => k1 (by rw [if_pos c] at hf; exact hf) H locs ls hP hS hl) (fun c => k2 (by rw [if_neg c] at hf; exact hf) H locs ls hP hS hl)
theorem g_icmp_eq (C : gC X cc nL own ret R) {x y : Int32} {off : Int} (tgt : Nat) {i : Decidable (x = y)} {T E : Option α} (hf : (if x = y then T else E) = some res) (hdg : decode cc pc = .ok (.if_icmp .eq off, 3)) (ht : (pc : Int) + off = (tgt : Int)) (k1 : T = some res → G X nL σ tgt lv stk) (k2 : E = some res → G X nL σ (pc + 3) lv stk) : G X nL σ pc lv (.int y :: .int x :: stk) :=
  fun H locs ls hP hS hl => lv_icmp_eq C.1 C.2.1 hdg ht (fun c => k1 (by rw [if_pos c] at hf; exact hf) H locs ls hP hS hl) (fun c => k2 (by rw [if_neg c] at hf; exact hf) H locs ls hP hS hl)
theorem g_icmp_ne (C : gC X cc nL own ret R) {x y : Int32} {off : Int} (tgt : Nat) {i : Decidable (x = y)} {T E : Option α} (hf : (if x = y then T else E) = some res) (hdg : decode cc pc = .ok (.if_icmp .ne off, 3)) (ht : (pc : Int) + off = (tgt : Int)) (k2 : T = some res → G X nL σ (pc + 3) lv stk) (k1 : E = some res → G X nL σ tgt lv stk) : G X nL σ pc lv (.int y :: .int x :: stk) :=
  fun H locs ls hP hS hl => lv_icmp_ne C.1 C.2.1 hdg ht (fun c => k1 (by rw [if_neg c] at hf; exact hf) H locs ls hP hS hl) (fun c => k2 (by rw [if_pos c] at hf; exact hf) H locs ls hP hS hl)
theorem g_icmp_lt (C : gC X cc nL own ret R) {x y : Int32} {off : Int} (tgt : Nat) {i : Decidable (x < y)} {T E : Option α} (hf : (if x < y then T else E) = some res) (hdg : decode cc pc = .ok (.if_icmp .lt off, 3)) (ht : (pc : Int) + off = (tgt : Int)) (k1 : T = some res → G X nL σ tgt lv stk) (k2 : E = some res → G X nL σ (pc + 3) lv stk) : G X nL σ pc lv (.int y :: .int x :: stk) :=
  fun H locs ls hP hS hl => lv_icmp_lt C.1 C.2.1 hdg ht (fun c => k1 (by rw [if_pos c] at hf; exact hf) H locs ls hP hS hl) (fun c => k2 (by rw [if_neg c] at hf; exact hf) H locs ls hP hS hl)
theorem g_icmp_ge (C : gC X cc nL own ret R) {x y : Int32} {off : Int} (tgt : Nat) {i : Decidable (y ≤ x)} {T E : Option α} (hf : (if y ≤ x then T else E) = some res) (hdg : decode cc pc = .ok (.if_icmp .ge off, 3)) (ht : (pc : Int) + off = (tgt : Int)) (k1 : T = some res → G X nL σ tgt lv stk) (k2 : E = some res → G X nL σ (pc + 3) lv stk) : G X nL σ pc lv (.int y :: .int x :: stk) :=
  fun H locs ls hP hS hl => lv_icmp_ge C.1 C.2.1 hdg ht (fun c => k1 (by rw [if_pos c] at hf; exact hf) H locs ls hP hS hl) (fun c => k2 (by rw [if_neg c] at hf; exact hf) H locs ls hP hS hl)
theorem g_icmp_gt (C : gC X cc nL own ret R) {x y : Int32} {off : Int} (tgt : Nat) {i : Decidable (y < x)} {T E : Option α} (hf : (if y < x then T else E) = some res) (hdg : decode cc pc = .ok (.if_icmp .gt off, 3)) (ht : (pc : Int) + off = (tgt : Int)) (k1 : T = some res → G X nL σ tgt lv stk) (k2 : E = some res → G X nL σ (pc + 3) lv stk) : G X nL σ pc lv (.int y :: .int x :: stk) :=
  fun H locs ls hP hS hl => lv_icmp_gt C.1 C.2.1 hdg ht (fun c => k1 (by rw [if_pos c] at hf; exact hf) H locs ls hP hS hl) (fun c => k2 (by rw [if_neg c] at hf; exact hf) H locs ls hP hS hl)
theorem g_icmp_le (C : gC X cc nL own ret R) {x y : Int32} {off : Int} (tgt : Nat) {i : Decidable (x ≤ y)} {T E : Option α} (hf : (if x ≤ y then T else E) = some res) (hdg : decode cc pc = .ok (.if_icmp .le off, 3)) (ht : (pc : Int) + off = (tgt : Int)) (k1 : T = some res → G X nL σ tgt lv stk) (k2 : E = some res → G X nL σ (pc + 3) lv stk) : G X nL σ pc lv (.int y :: .int x :: stk) :=
  fun H locs ls hP hS hl => lv_icmp_le C.1 C.2.1 hdg ht (fun c => k1 (by rw [if_pos c] at hf; exact hf) H locs ls hP hS hl) (fun c => k2 (by rw [if_neg c] at hf; exact hf) H locs ls hP hS hl)
/-- a switch: a case by its number, and what is no case -/
theorem g_tcase (C : gC X cc nL own ret R) {dflt lo hi off : Int} {offs : Array Int} {len : Nat} {x : Int32} (n : Int32) (tgt : Nat) (hdg : decode cc pc = .ok (.tableswitch dflt lo hi offs, len)) (he : x = n) (h1 : ¬ n.toInt < lo) (h2 : ¬ hi < n.toInt) (ho : offs[(n.toInt - lo).toNat]? = some off) (ht : (pc : Int) + off = (tgt : Int)) (k : G X nL σ tgt lv stk) : G X nL σ pc lv (.int x :: stk) := by
  subst he
  exact fun H locs ls hP hS hl => lv_tableIn C.1 C.2.1 hdg h1 h2 ho ht (k H locs ls hP hS hl)
theorem g_tout (C : gC X cc nL own ret R) {dflt lo hi : Int} {offs : Array Int} {len : Nat} {x : Int32} (tgt : Nat) (hdg : decode cc pc = .ok (.tableswitch dflt lo hi offs, len)) (h : x.toInt < lo ∨ hi < x.toInt) (ht : (pc : Int) + dflt = (tgt : Int)) (k : G X nL σ tgt lv stk) : G X nL σ pc lv (.int x :: stk) :=
  fun H locs ls hP hS hl => lv_tableOut C.1 C.2.1 hdg h ht (k H locs ls hP hS hl)
theorem g_look (C : gC X cc nL own ret R) {dflt off : Int} {ps : Array (Int × Int)} {len : Nat} {x : Int32} (tgt : Nat) (hdg : decode cc pc = .ok (.lookupswitch dflt ps, len)) (hp : (ps.toList.zip (ps.toList.drop 1)).all (fun (a, next) => a.1 < next.1) = true) (ho : Op.lookupswitch.offset ps.toList dflt x.toInt = off) (ht : (pc : Int) + off = (tgt : Int)) (k : G X nL σ tgt lv stk) : G X nL σ pc lv (.int x :: stk) :=
  fun H locs ls hP hS hl => lv_lookup C.1 C.2.1 hdg hp ho ht (k H locs ls hP hS hl)
/-! the world's rows -/
theorem gC_D (C : gC X cc nL own ret R) (σ : sg) : va_D (XA X) (g_ws (XG X) σ) := g_ws_D C.2.2.2.2.2.2.2.1 C.2.2.2.2.2.2.2.2.1 σ
theorem gC_K (C : gC X cc nL own ret R) : va_K (XG X).1 vwCl (g_tys (XG X)) (Xs X) := C.2.2.2.2.2.2.1
theorem gC_t (C : gC X cc nL own ret R) {w : Cond} (h : w ∈ gB) : w.before (Xa X) (Xs X) = true := C.2.2.2.2.1 w h
theorem gC_N (C : gC X cc nL own ret R) {w : Cond} (hw : w.onTables = true) (h : w ∈ gNw) : w.before (Xa X) (Xs X) = true := (C.2.2.2.2.2.2.2.2.2.2.2.1 w h).use hw
theorem g_fld {a N : Nat} {C0 : String} {T : u_T} {Gw : gW} {σ : sg} {r : Nat} {fl : List (Option Nat)} (hr : r < 737) (hsh : g_sh r = .inl (a, fl)) : (g_ws Gw σ)[r]? = some (Gw.2.2 r, .inr (a, g_fv Gw.2.2 (σ r) 0 fl)) := by
  rw [g_ws_at Gw σ hr]
  unfold g_el
  rw [hsh]
theorem g_arr {Gw : gW} {σ : sg} {r t n : Nat} (hr : r < 737) (hsh : g_sh r = .inr (t, n, none)) : (g_ws Gw σ)[r]? = some (Gw.2.2 r, .inl (Gw.2.1 t, n, .inl (σ r))) := by
  rw [g_ws_at Gw σ hr]
  unfold g_el
  rw [hsh]
theorem g_arrq {Gw : gW} {σ : sg} {r t n b : Nat} (hr : r < 737) (hsh : g_sh r = .inr (t, n, some b)) : (g_ws Gw σ)[r]? = some (Gw.2.2 r, .inl (Gw.2.1 t, n, .inr (.inr (.inr (.inr (fun k => if k < n then some (Gw.2.2 (b + g_ch t k)) else none)))))) := by
  rw [g_ws_at Gw σ hr]
  unfold g_el
  rw [hsh]
/-- getfield of an int -/
theorem g_geti (C : gC X cc nL own ret R) (ci k : Nat) {C0 : String} {T : u_T} {N index r : Nat} {fl : List (Option Nat)} (hr : r < 737) (hsh : g_sh r = .inl (ci, fl)) (hfk : fl[k]? = some none) (hc : vwCl[ci]? = some (C0, T, N)) (hk : k < N) (hin : ∀ w ∈ u_ws C0 T N, w ∈ gB) (hlink : Cond.fieldLink own index (T k).1 (T k).2.1 (T k).2.2.1 ∈ gB) (hdg : decode cc pc = .ok (.getfield index, 3)) (kk : G X nL σ (pc + 3) lv (.int (σ r k) :: stk)) : G X nL σ pc lv (.ref (Xd X r) :: stk) :=
  fun H locs ls hP hS hl => va_get C.1 C.2.1 C.2.2.2.2.1 hin C.2.2.2.1 (gC_K C) hP r (g_fld (C0 := C0) (T := T) (N := N) hr hsh) hc k hk (gC_t C hlink) (fun _ h => h) (v := .int (σ r k)) (by have h := g_fv_int (XG X).2.2 (σ r) fl k 0 hfk; rw [Nat.zero_add] at h; exact h) hdg (kk H locs ls hP hS hl)
theorem g_getiN (C : gC X cc nL own ret R) (ci k : Nat) {C0 host : String} {T : u_T} {N index r : Nat} {fl : List (Option Nat)} (hr : r < 737) (hsh : g_sh r = .inl (ci, fl)) (hfk : fl[k]? = some none) (hc : vwCl[ci]? = some (C0, T, N)) (hk : k < N) (hin : ∀ w ∈ u_ws C0 T N, w ∈ gB) (hlink : Cond.fieldLinkNest own index (T k).1 (T k).2.1 (T k).2.2.1 host ∈ gNw) (hdg : decode cc pc = .ok (.getfield index, 3)) (kk : G X nL σ (pc + 3) lv (.int (σ r k) :: stk)) : G X nL σ pc lv (.ref (Xd X r) :: stk) :=
  fun H locs ls hP hS hl => va_getN C.1 C.2.1 C.2.2.2.2.1 hin C.2.2.2.1 (gC_K C) hP r (g_fld (C0 := C0) (T := T) (N := N) hr hsh) hc k hk (gC_N C rfl hlink) (fun _ h => h) (v := .int (σ r k)) (by have h := g_fv_int (XG X).2.2 (σ r) fl k 0 hfk; rw [Nat.zero_add] at h; exact h) hdg (kk H locs ls hP hS hl)
/-- getfield of a reference -/
theorem g_getr (C : gC X cc nL own ret R) (ci k q : Nat) {C0 : String} {T : u_T} {N index r : Nat} {fl : List (Option Nat)} (hr : r < 737) (hsh : g_sh r = .inl (ci, fl)) (hfk : fl[k]? = some (some q)) (hc : vwCl[ci]? = some (C0, T, N)) (hk : k < N) (hin : ∀ w ∈ u_ws C0 T N, w ∈ gB) (hlink : Cond.fieldLink own index (T k).1 (T k).2.1 (T k).2.2.1 ∈ gB) (hdg : decode cc pc = .ok (.getfield index, 3)) (kk : G X nL σ (pc + 3) lv (.ref (Xd X q) :: stk)) : G X nL σ pc lv (.ref (Xd X r) :: stk) :=
  fun H locs ls hP hS hl => va_get C.1 C.2.1 C.2.2.2.2.1 hin C.2.2.2.1 (gC_K C) hP r (g_fld (C0 := C0) (T := T) (N := N) hr hsh) hc k hk (gC_t C hlink) (fun _ h => h) (v := .ref (Xd X q)) (g_fv_ref (XG X).2.2 (σ r) fl k 0 q hfk) hdg (kk H locs ls hP hS hl)
theorem g_getrN (C : gC X cc nL own ret R) (ci k q : Nat) {C0 host : String} {T : u_T} {N index r : Nat} {fl : List (Option Nat)} (hr : r < 737) (hsh : g_sh r = .inl (ci, fl)) (hfk : fl[k]? = some (some q)) (hc : vwCl[ci]? = some (C0, T, N)) (hk : k < N) (hin : ∀ w ∈ u_ws C0 T N, w ∈ gB) (hlink : Cond.fieldLinkNest own index (T k).1 (T k).2.1 (T k).2.2.1 host ∈ gNw) (hdg : decode cc pc = .ok (.getfield index, 3)) (kk : G X nL σ (pc + 3) lv (.ref (Xd X q) :: stk)) : G X nL σ pc lv (.ref (Xd X r) :: stk) :=
  fun H locs ls hP hS hl => va_getN C.1 C.2.1 C.2.2.2.2.1 hin C.2.2.2.1 (gC_K C) hP r (g_fld (C0 := C0) (T := T) (N := N) hr hsh) hc k hk (gC_N C rfl hlink) (fun _ h => h) (v := .ref (Xd X q)) (g_fv_ref (XG X).2.2 (σ r) fl k 0 q hfk) hdg (kk H locs ls hP hS hl)
theorem g_set1 {Gw : gW} {σ : sg} {r ci k : Nat} {fl : List (Option Nat)} {v : Int32} (hr : r < 737) (hsh : g_sh r = .inl (ci, fl)) (hfk : fl[k]? = some none) : (g_ws Gw σ).set r (Gw.2.2 r, .inr (ci, (g_fv Gw.2.2 (σ r) 0 fl).set k (.int v))) = g_ws Gw (up σ r k v) := by
  refine g_ws_set Gw hr ?_ (fun q hq => (g_el_congr Gw (up_row hq).symm).symm)
  unfold g_el
  rw [hsh]
  show Sum.inr (ci, g_fv Gw.2.2 (up σ r k v r) 0 fl) = _
  rw [up_upd]
  have h := g_fv_up Gw.2.2 (σ r) v fl k 0 hfk
  rw [Nat.zero_add] at h
  rw [h]
theorem g_set2 {Gw : gW} {σ : sg} {r t n k : Nat} {v : Int32} (hr : r < 737) (hsh : g_sh r = .inr (t, n, none)) : (g_ws Gw σ).set r (Gw.2.2 r, .inl (Gw.2.1 t, n, .inl (upd (σ r) k v))) = g_ws Gw (up σ r k v) := by
  refine g_ws_set Gw hr ?_ (fun q hq => (g_el_congr Gw (up_row hq).symm).symm)
  unfold g_el
  rw [hsh]
  show Sum.inl (Gw.2.1 t, n, Sum.inl (up σ r k v r)) = _
  rw [up_upd]
/-- putfield of an int, or of a boolean that is 0 or 1 -/
theorem g_put (C : gC X cc nL own ret R) (ci k : Nat) {C0 : String} {T : u_T} {N index r : Nat} {fl : List (Option Nat)} {v : Int32} {ty : FieldType} (hr : r < 737) (hsh : g_sh r = .inl (ci, fl)) (hfk : fl[k]? = some none) (hkl : k < fl.length) (hc : vwCl[ci]? = some (C0, T, N)) (hk : k < N) (ty0 : Nat → FieldType) (hty : ∀ k, k < N → parseFieldDescriptor (T k).2.2.1 = some (ty0 k)) (hnm : ∀ a, a < N → ∀ b, b < N → a ≠ b → (T a).2.1 ≠ (T b).2.1) (hin : ∀ w ∈ u_ws C0 T N, w ∈ gB) (hlink : Cond.fieldLink own index (T k).1 (T k).2.1 (T k).2.2.1 ∈ gB) (hfin : (T k).2.2.2 = false) (hd : parseFieldDescriptor (T k).2.2.1 = some ty) (hn : narrow ty (.int v) = .int v) (hfit : fits ty (.int v) = true) (hdg : decode cc pc = .ok (.putfield index, 3)) (kk : G X nL (up σ r k v) (pc + 3) lv stk) : G X nL σ pc lv (.int v :: .ref (Xd X r) :: stk) :=
  fun H locs ls hP hS hl => va_put C.1 C.2.1 C.2.2.2.2.1 hin ty0 hty hnm C.2.2.2.1 (gC_K C) hP (gC_D C σ) hS r (g_fld (C0 := C0) (T := T) (N := N) hr hsh) hc k hk (gC_t C hlink) (fun _ h => h) hfin hd hn hfit (by rw [g_fv_len]; exact hkl) hdg (fun H1 l1 hP1 _ hS1 => kk H1 l1 ls (by rw [g_set1 hr hsh hfk] at hP1; exact hP1) hS1 hl)
theorem g_putN (C : gC X cc nL own ret R) (ci k : Nat) {C0 host : String} {T : u_T} {N index r : Nat} {fl : List (Option Nat)} {v : Int32} {ty : FieldType} (hr : r < 737) (hsh : g_sh r = .inl (ci, fl)) (hfk : fl[k]? = some none) (hkl : k < fl.length) (hc : vwCl[ci]? = some (C0, T, N)) (hk : k < N) (ty0 : Nat → FieldType) (hty : ∀ k, k < N → parseFieldDescriptor (T k).2.2.1 = some (ty0 k)) (hnm : ∀ a, a < N → ∀ b, b < N → a ≠ b → (T a).2.1 ≠ (T b).2.1) (hin : ∀ w ∈ u_ws C0 T N, w ∈ gB) (hlink : Cond.fieldLinkNest own index (T k).1 (T k).2.1 (T k).2.2.1 host ∈ gNw) (hfin : (T k).2.2.2 = false) (hd : parseFieldDescriptor (T k).2.2.1 = some ty) (hn : narrow ty (.int v) = .int v) (hfit : fits ty (.int v) = true) (hdg : decode cc pc = .ok (.putfield index, 3)) (kk : G X nL (up σ r k v) (pc + 3) lv stk) : G X nL σ pc lv (.int v :: .ref (Xd X r) :: stk) :=
  fun H locs ls hP hS hl => va_putN C.1 C.2.1 C.2.2.2.2.1 hin ty0 hty hnm C.2.2.2.1 (gC_K C) hP (gC_D C σ) hS r (g_fld (C0 := C0) (T := T) (N := N) hr hsh) hc k hk (gC_N C rfl hlink) (fun _ h => h) hfin hd hn hfit (by rw [g_fv_len]; exact hkl) hdg (fun H1 l1 hP1 _ hS1 => kk H1 l1 ls (by rw [g_set1 hr hsh hfk] at hP1; exact hP1) hS1 hl)
theorem ld_some {r : Nat} {i v : Int32} (h : ld σ r i = some v) : ∃ n : Nat, g_sh r = .inr (0, n, none) ∧ vp_in i n ∧ v = σ r i.toNatClampNeg := by
  unfold ld at h
  split at h
  · next n hs =>
    obtain ⟨k, h1, h2⟩ := Option.map_eq_some_iff.mp h
    obtain ⟨h3, h4⟩ := ix_some h1
    subst h4
    exact ⟨n, hs, h3, h2.symm⟩
  · cases h
theorem ldz_some {r : Nat} {i v : Int32} (h : ldz σ r i = some v) : ∃ n : Nat, g_sh r = .inr (1, n, none) ∧ vp_in i n ∧ v = σ r i.toNatClampNeg := by
  unfold ldz at h
  split at h
  · next n hs =>
    obtain ⟨k, h1, h2⟩ := Option.map_eq_some_iff.mp h
    obtain ⟨h3, h4⟩ := ix_some h1
    subst h4
    exact ⟨n, hs, h3, h2.symm⟩
  · cases h
theorem ldr_some {r q : Nat} {i : Int32} (h : ldr r i = some q) : ∃ t n b : Nat, (t = 2 ∨ t = 3) ∧ g_sh r = .inr (t, n, some b) ∧ vp_in i n ∧ q = b + g_ch t i.toNatClampNeg := by
  unfold ldr at h
  split at h
  · next n b hs =>
    obtain ⟨k, h1, h2⟩ := Option.map_eq_some_iff.mp h
    obtain ⟨h3, h4⟩ := ix_some h1
    subst h4
    exact ⟨2, n, b, Or.inl rfl, hs, h3, h2.symm⟩
  · next n b hs =>
    obtain ⟨k, h1, h2⟩ := Option.map_eq_some_iff.mp h
    obtain ⟨h3, h4⟩ := ix_some h1
    subst h4
    exact ⟨3, n, b, Or.inr rfl, hs, h3, h2.symm⟩
  · cases h
theorem st_some {σ' : sg} {r : Nat} {i v : Int32} (h : st σ r i v = some σ') : ∃ n : Nat, g_sh r = .inr (0, n, none) ∧ vp_in i n ∧ σ' = up σ r i.toNatClampNeg v := by
  unfold st at h
  split at h
  · next n hs =>
    obtain ⟨k, h1, h2⟩ := Option.map_eq_some_iff.mp h
    obtain ⟨h3, h4⟩ := ix_some h1
    subst h4
    exact ⟨n, hs, h3, h2.symm⟩
  · cases h
theorem stz_some {σ' : sg} {r : Nat} {i v : Int32} (h : stz σ r i v = some σ') : ∃ n : Nat, g_sh r = .inr (1, n, none) ∧ vp_in i n ∧ σ' = up σ r i.toNatClampNeg (vp_nar .boolean v) := by
  unfold stz at h
  split at h
  · next n hs =>
    obtain ⟨k, h1, h2⟩ := Option.map_eq_some_iff.mp h
    obtain ⟨h3, h4⟩ := ix_some h1
    subst h4
    exact ⟨n, hs, h3, h2.symm⟩
  · cases h
theorem g_iald (C : gC X cc nL own ret R) {r : Nat} {i v : Int32} (hv : ld σ r i = some v) (hdg : decode cc pc = .ok (.iaload, 1)) (kk : G X nL σ (pc + 1) lv (.int v :: stk)) : G X nL σ pc lv (.int i :: .ref (Xd X r) :: stk) := by
  obtain ⟨n, hs, hi, rfl⟩ := ld_some hv
  exact fun H locs ls hP hS hl => va_iald C.1 C.2.1 (gC_K C) hP r 0 (g_arr (g_sh_lt hs (by decide)) hs) rfl hi hdg (kk H locs ls hP hS hl)
theorem g_zald (C : gC X cc nL own ret R) {r : Nat} {i v : Int32} (hv : ldz σ r i = some v) (hdg : decode cc pc = .ok (.baload, 1)) (kk : G X nL σ (pc + 1) lv (.int v :: stk)) : G X nL σ pc lv (.int i :: .ref (Xd X r) :: stk) := by
  obtain ⟨n, hs, hi, rfl⟩ := ldz_some hv
  exact fun H locs ls hP hS hl => va_zald C.1 C.2.1 (gC_K C) hP r 1 (g_arr (g_sh_lt hs (by decide)) hs) rfl hi hdg (kk H locs ls hP hS hl)
theorem va_alda {p : Program} {l : Launch} {e : Env} {R : Room} {s : State} {m : MethodId} {args : Array Value} {below : List Frame} {meth : Method} {c : Code} {H : Heap} {locs : List Loc} {cells slots : Nat} {Q : State → Prop} {pc : Nat} {ls : Array Slot} {rest : List Value} {D : va_G} {cl : List vw_C} {a : Nat} {tys : List (ClassId × FieldType)} {ws : va_W} (hexec : p.tables.exec = Jvm.exec) (hb : c.code = cc) (hK : va_K D cl tys s) (hP : va_P D cl ws H) (q0 t0 : Nat) {cA : ClassId} {ty : FieldType} {n : Nat} {f : Nat → Option Nat} (ha : ws[q0]? = some (a, .inl (cA, n, .inr (.inr (.inr (.inr f)))))) (ht : tys[t0]? = some (cA, .array ty)) {i : Int32} (hin : vp_in i n) (hdg : decode cc pc = .ok (.aaload, 1))
    (kk : W p l e R s m args below meth c H locs cells slots Q (F0 m (pc + 1) ls (va_rf (f i.toNatClampNeg) :: rest))) : W p l e R s m args below meth c H locs cells slots Q (F0 m pc ls (.int i :: .ref a :: rest)) := by
  have hlt : i.toNatClampNeg < n := Nat.not_le.mp fun q => hin (Or.inr q)
  exact W.aald (v := va_rf (f i.toNatClampNeg)) (ty := .array ty) hexec hb (hP q0 _ ha) ((hK.2 t0 _ ht).1 n (fun j => va_rf (f j))) rfl (fun q => by cases q) (by show ¬ (i < 0 ∨ (arrV _ _ _).slots.size ≤ _); rw [arrV_size]; exact hin) (by show (arrV _ _ _).slots[_]? = _; rw [arrV_read _ _ hlt]) rfl rfl hdg kk
theorem g_aald (C : gC X cc nL own ret R) {r q : Nat} {i : Int32} (hv : ldr r i = some q) (hdg : decode cc pc = .ok (.aaload, 1)) (kk : G X nL σ (pc + 1) lv (.ref (Xd X q) :: stk)) : G X nL σ pc lv (.int i :: .ref (Xd X r) :: stk) := by
  obtain ⟨t, n, b, ht, hs, hi, rfl⟩ := ldr_some hv
  have hlt : i.toNatClampNeg < n := Nat.not_le.mp fun q => hi (Or.inr q)
  intro H locs ls hP hS hl
  have hk := kk H locs ls hP hS hl
  rcases ht with rfl | rfl
  · refine va_alda C.1 C.2.1 (gC_K C) hP r 2 (ty := .int) (g_arrq (g_sh_lt hs (by decide)) hs) rfl hi hdg ?_
    rw [if_pos hlt]
    exact hk
  · refine va_alda C.1 C.2.1 (gC_K C) hP r 3 (ty := .array .int) (g_arrq (g_sh_lt hs (by decide)) hs) rfl hi hdg ?_
    rw [if_pos hlt]
    exact hk
theorem g_iast (C : gC X cc nL own ret R) {σ' : sg} {r : Nat} {i v : Int32} (hv : st σ r i v = some σ') (hdg : decode cc pc = .ok (.iastore, 1)) (kk : G X nL σ' (pc + 1) lv stk) : G X nL σ pc lv (.int v :: .int i :: .ref (Xd X r) :: stk) := by
  obtain ⟨n, hs, hi, rfl⟩ := st_some hv
  exact fun H locs ls hP hS hl => va_iast C.1 C.2.1 (gC_K C) hP (gC_D C σ) hS r 0 (g_arr (g_sh_lt hs (by decide)) hs) rfl hi hdg (fun H1 l1 hP1 _ hS1 => kk H1 l1 ls (by rw [g_set2 (g_sh_lt hs (by decide)) hs] at hP1; exact hP1) hS1 hl)
theorem g_zast (C : gC X cc nL own ret R) {σ' : sg} {r : Nat} {i v : Int32} (hv : stz σ r i v = some σ') (hdg : decode cc pc = .ok (.bastore, 1)) (kk : G X nL σ' (pc + 1) lv stk) : G X nL σ pc lv (.int v :: .int i :: .ref (Xd X r) :: stk) := by
  obtain ⟨n, hs, hi, rfl⟩ := stz_some hv
  exact fun H locs ls hP hS hl => va_zast C.1 C.2.1 (gC_K C) hP (gC_D C σ) hS r 1 (g_arr (g_sh_lt hs (by decide)) hs) rfl hi hdg (fun H1 l1 hP1 _ hS1 => kk H1 l1 ls (by rw [g_set2 (g_sh_lt hs (by decide)) hs] at hP1; exact hP1) hS1 hl)
def gLen (r : Nat) : Nat := match g_sh r with
  | .inr (_, n, _) => n
  | _ => 0
theorem g_alen (C : gC X cc nL own ret R) {r n : Nat} {v : Int32} (hs : g_sh r = .inr (0, n, none)) (hv : Int32.ofNat n = v) (hdg : decode cc pc = .ok (.arraylength, 1)) (kk : G X nL σ (pc + 1) lv (.int v :: stk)) : G X nL σ pc lv (.ref (Xd X r) :: stk) :=
  fun H locs ls hP hS hl => va_alen C.1 C.2.1 (gC_K C) hP r 0 (g_arr (g_sh_lt hs (by decide)) hs) rfl hv hdg (kk H locs ls hP hS hl)
/-! Math.max, Math.min, System.arraycopy -/
def imax (x y : Int32) : Int32 := if x < y then y else x
def imin (x y : Int32) : Int32 := if y < x then y else x
theorem g_max (C : gC X cc nL own ret R) {index : Nat} {x y : Int32} (hlink : Cond.methodLink own index Lib.Math.max.name ∈ gB) (hst : Cond.static Lib.Math.max.name ∈ gB) (hini : Cond.initialized "java/lang/Math" ∈ gB) (hcode : Cond.code Lib.Math.max.name Lib.Math.max.code 2 (some .int) ∈ gB) (hfr : 1 ≤ R.frames) (hlo : (stk.map fun v => v.category).sum + 13 ≤ R.locals) (hdg : decode cc pc = .ok (.invokestatic index, 3)) (kk : G X nL σ (pc + 3) lv (.int (imax x y) :: stk)) : G X nL σ pc lv (.int y :: .int x :: stk) := by
  have hR : XR X = R := C.2.2.2.2.2.2.2.2.2.2.2.2
  exact fun H locs ls hP hS hl => va_mmax C.1 C.2.1 (C.2.2.1.trans hl.1.symm) C.2.2.2.1 (gC_t C hlink) (gC_t C hst) (gC_t C hini) (gC_t C hcode) (by rw [hR]; exact hfr) (by rw [hR]; exact hlo) C.2.2.2.2.2.2.2.2.2.1.1 C.2.2.2.2.2.2.2.2.2.1.2 hdg (kk H locs ls hP hS hl)
theorem g_min (C : gC X cc nL own ret R) {index : Nat} {x y : Int32} (hlink : Cond.methodLink own index Lib.Math.min.name ∈ gB) (hst : Cond.static Lib.Math.min.name ∈ gB) (hini : Cond.initialized "java/lang/Math" ∈ gB) (hcode : Cond.code Lib.Math.min.name Lib.Math.min.code 2 (some .int) ∈ gB) (hfr : 1 ≤ R.frames) (hlo : (stk.map fun v => v.category).sum + 13 ≤ R.locals) (hdg : decode cc pc = .ok (.invokestatic index, 3)) (kk : G X nL σ (pc + 3) lv (.int (imin x y) :: stk)) : G X nL σ pc lv (.int y :: .int x :: stk) := by
  have hR : XR X = R := C.2.2.2.2.2.2.2.2.2.2.2.2
  exact fun H locs ls hP hS hl => va_mmin C.1 C.2.1 (C.2.2.1.trans hl.1.symm) C.2.2.2.1 (gC_t C hlink) (gC_t C hst) (gC_t C hini) (gC_t C hcode) (by rw [hR]; exact hfr) (by rw [hR]; exact hlo) C.2.2.2.2.2.2.2.2.2.1.1 C.2.2.2.2.2.2.2.2.2.1.2 hdg (kk H locs ls hP hS hl)
theorem cp_some {σ' : sg} {r q : Nat} {i j n : Int32} (h : cp σ r i q j n = some σ') : ∃ nr nq : Nat, g_sh r = .inr (0, nr, none) ∧ g_sh q = .inr (0, nq, none) ∧ r ≠ q ∧ ¬ i < 0 ∧ ¬ j < 0 ∧ ¬ n < 0 ∧ i.toNatClampNeg + n.toNatClampNeg ≤ nr ∧ j.toNatClampNeg + n.toNatClampNeg ≤ nq ∧ σ' = (fun r' => if r' = q then va_cpy (σ r) (σ q) i.toNatClampNeg j.toNatClampNeg n.toNatClampNeg else σ r') := by
  unfold cp at h
  split at h
  · next nr nq h1 h2 =>
    split at h
    · next hh => exact ⟨nr, nq, h1, h2, hh.1, hh.2.1, hh.2.2.1, hh.2.2.2.1, hh.2.2.2.2.1, hh.2.2.2.2.2, (Option.some.inj h).symm⟩
    · cases h
  · cases h
theorem g_copy (C : gC X cc nL own ret R) {σ' : sg} {index r q : Nat} {i j n : Int32} (hv : cp σ r i q j n = some σ') (hlink : Cond.methodLink own index arraycopyName ∈ gB) (hnat : Cond.native arraycopyName ∈ gB) (hst : Cond.static arraycopyName ∈ gB) (hini : Cond.initialized "java/lang/System" ∈ gB) (hfr : 1 ≤ R.frames) (hlo : (stk.map fun v => v.category).sum + (nativeFrameWords "java/lang/System" "arraycopy" 5 + 11) ≤ R.locals) (hdg : decode cc pc = .ok (.invokestatic index, 3)) (kk : G X nL σ' (pc + 3) lv stk) : G X nL σ pc lv (.int n :: .int j :: .ref (Xd X q) :: .int i :: .ref (Xd X r) :: stk) := by
  have hR : XR X = R := C.2.2.2.2.2.2.2.2.2.2.2.2
  obtain ⟨nr, nq, s1, s2, -, h1, h2, h3, h4, h5, rfl⟩ := cp_some hv
  refine fun H locs ls hP hS hl => va_copyi C.1 C.2.1 (C.2.2.1.trans hl.1.symm) C.2.2.2.1 (gC_t C hlink) (gC_t C hnat) (gC_t C hst) (gC_t C hini) (gC_K C) hP (gC_D C σ) hS r q 0 0 (ty := .int) (g_arr (g_sh_lt s1 (by decide)) s1) (g_arr (g_sh_lt s2 (by decide)) s2) rfl rfl rfl h1 h2 h3 h4 h5 (fun _ _ => rfl) (by rw [hR]; exact hfr) (by rw [hR]; exact hlo) hdg (fun H1 l1 hP1 _ hS1 => kk H1 l1 ls ?_ hS1 hl)
  rw [g_ws_set (σ' := fun r' => if r' = q then va_cpy (σ r) (σ q) i.toNatClampNeg j.toNatClampNeg n.toNatClampNeg else σ r') (XG X) (g_sh_lt s2 (by decide)) (by unfold g_el; rw [s2]; show Sum.inl ((XG X).2.1 0, nq, Sum.inl (if q = q then _ else _)) = _; rw [if_pos rfl]) (fun z hz => (g_el_congr (XG X) (by show σ z = if z = q then _ else _; rw [if_neg hz])).symm)] at hP1
  exact hP1
end GR
