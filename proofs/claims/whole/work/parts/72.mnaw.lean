/-! THE INSTRUCTION multianewarray OVER THE MACHINE -/
section KMN
variable {p : Program} {l : Launch} {e : Env} {R : Room} {s : State} {m : MethodId} {args : Array Value} {below : List Frame} {meth : Method} {c : Code} {T : State} {locs : List Loc} {cells slots : Nat}
theorem k_multi2 (X : Stand p l e R s m args below meth c T locs cells slots) (hexec : p.tables.exec = Jvm.exec) {own : String} {index : Nat} (hown : s.vm.findClass own = some m.cls) (hclink : (Cond.classLink own index "[[I").before args s = true)
    {c2 c1 cx : ClassId} {k2 k1 : Class} (hf : s.vm.findClass "[[I" = some c2) (h2 : s.vm.classes[c2]? = some k2) (g2 : k2.kind = .array c1 (.array .int)) (h1 : s.vm.classes[c1]? = some k1) (g1 : k1.kind = .array cx .int)
    {g : JFrame} (hg : g.method = m) (hdg : decode c.code g.pc = .ok (.multianewarray index 2, 4)) {N K : Nat} {rest : List Value} (hstack : g.stack = .int (nI K) :: .int (nI N) :: rest) (hN : N ≤ 100) (hK : K ≤ 100)
    (hcells : cells + (1 + N) ≤ R.cells) (hslots : slots + (N + N * K) ≤ R.slots) :
    ∃ (vm₁ : Vm), Stand p l e R s m args below meth c (Multi.fill (T.setVm vm₁) c2 c1 N K (defaultValue .int) N) locs (cells + 1 + N) (slots + N + N * K) ∧
      ∀ target, Steps p.tables e below ((Multi.fill (T.setVm vm₁) c2 c1 N K (defaultValue .int) N).setTop { g with pc := g.pc + 4, stack := .ref T.heap.size :: rest }) target → Steps p.tables e below (T.setTop g) target := by
  subst hg
  have hpl : e.platform.magicAccessors = ({} : Platform).magicAccessors := by rw [X.admits.platform]
  obtain ⟨c0, hfc0, hcl⟩ := Cond.classLink_spec hown hclink e.platform hpl
  cases hf.symm.trans hfc0
  obtain ⟨hg₁, hwarm₁, hready₁⟩ := State.classEntry (e := e) X.warmed hcl
  generalize T.vm.noted g.method.cls index (.cls c2) = vm₁ at hg₁ hwarm₁ hready₁
  have hal : s.vm.Alike vm₁ := hwarm₁.alike
  obtain ⟨k2', hk2, he2⟩ := hal.2.2 _ _ h2
  obtain ⟨k1', hk1, he1⟩ := hal.2.2 _ _ h1
  have X₁ := X.noted hwarm₁
  obtain ⟨hr1, hr2⟩ := X.roomAbove hcells hslots
  have eN : (nI N).toNatClampNeg = N := nI_clamp (by omega)
  have eK : (nI K).toNatClampNeg = K := nI_clamp (by omega)
  refine ⟨vm₁, k_filled X₁ c2 c1 N K (defaultValue .int) N, fun target hrest => ?_⟩
  have hlim : 1000 ≤ e.platform.arrayLengthLimit := by rw [Launch.admits_arrayLengthLimit X.admits]; exact Nat.le_of_ble_eq_true rfl
  have hmax : 1000 ≤ e.platform.maxHeapBytes := by rw [Launch.admits_maxHeapBytes X.admits]; exact Nat.le_of_ble_eq_true rfl
  jvm_step X.here [hexec, hdg]
  simp only [multianewarray.sem, wp_bind', W.resolveClassAt_links (State.method?_setTop g X.here.top) hg₁]
  rw [W.popN, if_neg (by decide)]
  refine ⟨g, State.topJava?_setTop' (s := T.setVm vm₁) g X.here.top, [.int (nI N), .int (nI K)], rest, rfl, hstack, ?_⟩
  simp only [List.mapM_cons, List.mapM_nil, wp_bind', wp_pure']
  refine Multi.wp_make2 (k := k2') (kc := k1') (comp := c1) (cc := cx) (t0 := .array .int) (type := .int) hk2 (by rw [he2]; exact g2) rfl hk1 (by rw [he1]; exact g1) (nI_pos (by omega)) (nI_pos (by omega)) (by rw [eN]; omega) (by rw [eN]; show ¬ N * 4 > _; omega) (by rw [eK]; omega) (by rw [eK]; show ¬ K * 4 > _; omega) rfl rfl (by rw [eN]; show T.heap.size + 1 + _ ≤ _; omega) (by rw [eN, eK]; show T.slotsUsed + _ + _ ≤ _; omega) (fun d' acts' => ?_)
  rw [eN, eK]
  have XF := k_filled X₁ c2 c1 N K (defaultValue .int) N
  have eS : ((T.setTop g).setVm vm₁).setTop { g with stack := rest } = (T.setVm vm₁).setTop { g with stack := rest } := by
    show ((T.setVm vm₁).setTop g).setTop _ = _
    rw [State.setTop_setTop]
  rw [eS, Multi.fill_setTop]
  simp only [wp_bind', W.mark, W.pushRef, State.topJava?_setTop' _ XF.here.top, Option.some.injEq, exists_eq_left', State.setTop_setTop, State.heap_setTop]
  intro acts
  simp [jvm, XF.here.top]
  exact hrest
theorem k_multi3 (X : Stand p l e R s m args below meth c T locs cells slots) (hexec : p.tables.exec = Jvm.exec) {own : String} {index : Nat} (hown : s.vm.findClass own = some m.cls) (hclink : (Cond.classLink own index "[[[I").before args s = true)
    {c3 c2 c1 cx : ClassId} {k3 k2 k1 : Class} (hf : s.vm.findClass "[[[I" = some c3) (h3 : s.vm.classes[c3]? = some k3) (g3 : k3.kind = .array c2 (.array (.array .int))) (h2 : s.vm.classes[c2]? = some k2) (g2 : k2.kind = .array c1 (.array .int)) (h1 : s.vm.classes[c1]? = some k1) (g1 : k1.kind = .array cx .int)
    {g : JFrame} (hg : g.method = m) (hdg : decode c.code g.pc = .ok (.multianewarray index 3, 4)) {rest : List Value} (hstack : g.stack = .int (nI 4) :: .int (nI 40) :: .int (nI 10) :: rest)
    (hcells : cells + 411 ≤ R.cells) (hslots : slots + 2010 ≤ R.slots) :
    ∃ (vm₁ : Vm), Stand p l e R s m args below meth c (k_fill3 (T.setVm vm₁) c3 c2 c1 10) locs (cells + 1 + 41 * 10) (slots + 10 + 200 * 10) ∧
      ∀ target, Steps p.tables e below ((k_fill3 (T.setVm vm₁) c3 c2 c1 10).setTop { g with pc := g.pc + 4, stack := .ref T.heap.size :: rest }) target → Steps p.tables e below (T.setTop g) target := by
  subst hg
  have hpl : e.platform.magicAccessors = ({} : Platform).magicAccessors := by rw [X.admits.platform]
  obtain ⟨c0, hfc0, hcl⟩ := Cond.classLink_spec hown hclink e.platform hpl
  cases hf.symm.trans hfc0
  obtain ⟨hg₁, hwarm₁, hready₁⟩ := State.classEntry (e := e) X.warmed hcl
  generalize T.vm.noted g.method.cls index (.cls c3) = vm₁ at hg₁ hwarm₁ hready₁
  have hal : s.vm.Alike vm₁ := hwarm₁.alike
  obtain ⟨k3', hk3, he3⟩ := hal.2.2 _ _ h3
  obtain ⟨k2', hk2, he2⟩ := hal.2.2 _ _ h2
  obtain ⟨k1', hk1, he1⟩ := hal.2.2 _ _ h1
  have X₁ := X.noted hwarm₁
  obtain ⟨hr1, hr2⟩ := X.roomAbove hcells hslots
  refine ⟨vm₁, k_filled3 X₁ c3 c2 c1 10, fun target hrest => ?_⟩
  have hlim : 1000 ≤ e.platform.arrayLengthLimit := by rw [Launch.admits_arrayLengthLimit X.admits]; exact Nat.le_of_ble_eq_true rfl
  have hmax : 1000 ≤ e.platform.maxHeapBytes := by rw [Launch.admits_maxHeapBytes X.admits]; exact Nat.le_of_ble_eq_true rfl
  jvm_step X.here [hexec, hdg]
  simp only [multianewarray.sem, wp_bind', W.resolveClassAt_links (State.method?_setTop g X.here.top) hg₁]
  rw [W.popN, if_neg (by decide)]
  refine ⟨g, State.topJava?_setTop' (s := T.setVm vm₁) g X.here.top, [.int (nI 10), .int (nI 40), .int (nI 4)], rest, rfl, hstack, ?_⟩
  simp only [List.mapM_cons, List.mapM_nil, wp_bind', wp_pure']
  refine k_make3 (k3 := k3') (k2 := k2') (k1 := k1') (c1 := c2) (c2 := c1) (cc := cx) hk3 (by rw [he3]; exact g3) hk2 (by rw [he2]; exact g2) hk1 (by rw [he1]; exact g1) rfl rfl rfl hlim hmax (by show T.heap.size + 411 ≤ _; omega) (by show T.slotsUsed + 2010 ≤ _; omega) (fun d' acts' => ?_)
  have XF := k_filled3 X₁ c3 c2 c1 10
  have eS : ((T.setTop g).setVm vm₁).setTop { g with stack := rest } = (T.setVm vm₁).setTop { g with stack := rest } := by
    show ((T.setVm vm₁).setTop g).setTop _ = _
    rw [State.setTop_setTop]
  rw [eS, k_fill3_top]
  simp only [wp_bind', W.mark, W.pushRef, State.topJava?_setTop' _ XF.here.top, Option.some.injEq, exists_eq_left', State.setTop_setTop, State.heap_setTop]
  intro acts
  simp [jvm, XF.here.top]
  exact hrest
variable {H : Heap} {Q : State → Prop} {cc : ByteArray} {pc : Nat} {ls : Array Slot} {rest : List Value}
theorem k_outer2 (c : ClassId) (N h0 : Nat) : ∀ i : Nat, Multi.outerC c N h0 i = arrV c N (fun j => va_rf (if j < i then some (h0 + 1 + j) else none))
  | 0 => by
    show ({ cls := c, slots := Array.replicate N .null, vm := .none } : Cell) = _
    rw [arrV_new]
    refine congrArg (arrV c N) (funext fun j => ?_)
    rw [if_neg (Nat.not_lt_zero j)]
    rfl
  | i + 1 => by
    show (Multi.outerC c N h0 i).setSlot i (.ref (h0 + 1 + i)) = _
    rw [k_outer2 c N h0 i, arrV_store]
    refine congrArg (arrV c N) (funext fun j => ?_)
    show (if j = i then Value.ref (h0 + 1 + i) else va_rf (if j < i then some (h0 + 1 + j) else none)) = _
    by_cases e : j = i
    · rw [if_pos e, if_pos (by omega), e]; rfl
    · rw [if_neg e]
      by_cases h : j < i
      · rw [if_pos h, if_pos (by omega)]
      · rw [if_neg h, if_neg (by omega)]
theorem k_outer3 (c : ClassId) (h0 : Nat) : ∀ i : Nat, k_out c h0 i = arrV c 10 (fun j => va_rf (if j < i then some (h0 + 1 + 41 * j) else none))
  | 0 => by
    show ({ cls := c, slots := Array.replicate 10 .null, vm := .none } : Cell) = _
    rw [arrV_new]
    refine congrArg (arrV c 10) (funext fun j => ?_)
    rw [if_neg (Nat.not_lt_zero j)]
    rfl
  | i + 1 => by
    show (k_out c h0 i).setSlot i (.ref (h0 + 1 + 41 * i)) = _
    rw [k_outer3 c h0 i, arrV_store]
    refine congrArg (arrV c 10) (funext fun j => ?_)
    show (if j = i then Value.ref (h0 + 1 + 41 * i) else va_rf (if j < i then some (h0 + 1 + 41 * j) else none)) = _
    by_cases e : j = i
    · rw [if_pos e, if_pos (by omega), e]; rfl
    · rw [if_neg e]
      by_cases h : j < i
      · rw [if_pos h, if_pos (by omega)]
      · rw [if_neg h, if_neg (by omega)]
/-- an array of n references; of n numbers 0 -/
def k_aR (cA : ClassId) (n : Nat) (f : Nat → Nat) : va_E := .inl (cA, n, .inr (.inr (.inr (.inr (fun k => if k < n then some (f k) else none)))))
def k_aZ (cA : ClassId) (n : Nat) : va_E := .inl (cA, n, .inl (fun _ => 0))
theorem k_inner (c : ClassId) (K : Nat) : Multi.innerC c K (defaultValue .int) = vp_cell c (K, .inl (fun _ => 0)) := by
  show ({ cls := c, slots := Array.replicate K (.int 0), vm := .none } : Cell) = arrV c K (fun _ => .int 0)
  rw [← arrV_new]
theorem k_mna2W (hexec : p.tables.exec = Jvm.exec) (hb : c.code = cc) {own : String} {index : Nat} (hown : s.vm.findClass own = some m.cls) (hclink : (Cond.classLink own index "[[I").before args s = true)
    {c2 c1 cx : ClassId} {k2 k1 : Class} (hf : s.vm.findClass "[[I" = some c2) (h2 : s.vm.classes[c2]? = some k2) (g2 : k2.kind = .array c1 (.array .int)) (h1 : s.vm.classes[c1]? = some k1) (g1 : k1.kind = .array cx .int)
    {N K : Nat} (hN : N ≤ 100) (hK : K ≤ 100) (hcells : cells + (1 + N) ≤ R.cells) (hslots : slots + (N + N * K) ≤ R.slots) (hdg : decode cc pc = .ok (.multianewarray index 2, 4))
    (kk : ∀ H1 : Heap, H1.size = H.size + 1 + N → (∀ x, x < H.size → H1[x]? = H[x]?) → H1[H.size]? = some (vp_cell c2 (N, .inr (.inr (.inr (.inr (fun k => if k < N then some (H.size + 1 + k) else none)))))) → (∀ j, j < N → H1[H.size + 1 + j]? = some (vp_cell c1 (K, .inl (fun _ => 0)))) → W p l e R s m args below meth c H1 locs (cells + 1 + N) (slots + N + N * K) Q (F0 m (pc + 4) ls (.ref H.size :: rest))) : W p l e R s m args below meth c H locs cells slots Q (F0 m pc ls (.int (nI K) :: .int (nI N) :: rest)) := by
  intro T hT X
  subst hT
  obtain ⟨vm₁, XF, step⟩ := k_multi2 X hexec hown hclink hf h2 g2 h1 g1 (g := F0 m pc ls (.int (nI K) :: .int (nI N) :: rest)) rfl (by rw [hb]; exact hdg) rfl hN hK hcells hslots
  obtain ⟨f1, f2, f3, f4⟩ := Multi.fill_facts (T.setVm vm₁) c2 c1 N K (defaultValue .int) N
  obtain ⟨t, a1, b1⟩ := kk (Multi.fill (T.setVm vm₁) c2 c1 N K (defaultValue .int) N).heap f1 (fun x hx => Multi.fill_old (T.setVm vm₁) c2 c1 N K (defaultValue .int) (a := x) hx N) (by
    rw [show (Multi.fill (T.setVm vm₁) c2 c1 N K (defaultValue .int) N).heap[T.heap.size]? = _ from f2, k_outer2]
    rfl) (fun j hj => by
    rw [← k_inner]
    exact Multi.fill_inner (T.setVm vm₁) c2 c1 N K (defaultValue .int) N j hj) _ rfl XF
  exact ⟨t, step t a1, b1⟩
theorem k_mna3W (hexec : p.tables.exec = Jvm.exec) (hb : c.code = cc) {own : String} {index : Nat} (hown : s.vm.findClass own = some m.cls) (hclink : (Cond.classLink own index "[[[I").before args s = true)
    {c3 c2 c1 cx : ClassId} {k3 k2 k1 : Class} (hf : s.vm.findClass "[[[I" = some c3) (h3 : s.vm.classes[c3]? = some k3) (g3 : k3.kind = .array c2 (.array (.array .int))) (h2 : s.vm.classes[c2]? = some k2) (g2 : k2.kind = .array c1 (.array .int)) (h1 : s.vm.classes[c1]? = some k1) (g1 : k1.kind = .array cx .int)
    (hcells : cells + 411 ≤ R.cells) (hslots : slots + 2010 ≤ R.slots) (hdg : decode cc pc = .ok (.multianewarray index 3, 4))
    (kk : ∀ H1 : Heap, H1.size = H.size + 411 → (∀ x, x < H.size → H1[x]? = H[x]?) → H1[H.size]? = some (vp_cell c3 (10, .inr (.inr (.inr (.inr (fun k => if k < 10 then some (H.size + 1 + 41 * k) else none)))))) → (∀ i, i < 10 → H1[H.size + 1 + 41 * i]? = some (vp_cell c2 (40, .inr (.inr (.inr (.inr (fun k => if k < 40 then some (H.size + 1 + 41 * i + 1 + k) else none)))))) ∧ ∀ j, j < 40 → H1[H.size + 1 + 41 * i + 1 + j]? = some (vp_cell c1 (4, .inl (fun _ => 0)))) → W p l e R s m args below meth c H1 locs (cells + 411) (slots + 2010) Q (F0 m (pc + 4) ls (.ref H.size :: rest))) : W p l e R s m args below meth c H locs cells slots Q (F0 m pc ls (.int (nI 4) :: .int (nI 40) :: .int (nI 10) :: rest)) := by
  intro T hT X
  subst hT
  obtain ⟨vm₁, XF, step⟩ := k_multi3 X hexec hown hclink hf h3 g3 h2 g2 h1 g1 (g := F0 m pc ls (.int (nI 4) :: .int (nI 40) :: .int (nI 10) :: rest)) rfl (by rw [hb]; exact hdg) rfl hcells hslots
  obtain ⟨f1, f2, f3, f4⟩ := k_fill3_f (T.setVm vm₁) c3 c2 c1 10
  obtain ⟨t, a1, b1⟩ := kk (k_fill3 (T.setVm vm₁) c3 c2 c1 10).heap f1 (fun x hx => k_fill3_old (T.setVm vm₁) c3 c2 c1 (a := x) hx 10) (by
    rw [show (k_fill3 (T.setVm vm₁) c3 c2 c1 10).heap[T.heap.size]? = _ from f2, k_outer3]
    rfl) (fun i hi => by
    obtain ⟨q1, q2⟩ := k_fill3_mid (T.setVm vm₁) c3 c2 c1 10 i hi
    refine ⟨?_, fun j hj => ?_⟩
    · rw [show (k_fill3 (T.setVm vm₁) c3 c2 c1 10).heap[T.heap.size + 1 + 41 * i]? = _ from q1, k_outer2]
      rfl
    · rw [← k_inner]
      exact q2 j hj) _ rfl XF
  exact ⟨t, step t a1, b1⟩
end KMN
