/-! new int[n][m] AND new int[10][40][4]: the cells, one behind another -/
/-- the outermost array after i of its parts, each 41 cells long -/
def k_out (c : ClassId) (h0 : Nat) : Nat → Cell
  | 0 => { cls := c, slots := Array.replicate 10 .null, vm := .none }
  | i + 1 => (k_out c h0 i).setSlot i (.ref (h0 + 1 + 41 * i))
def k_fill3 (s : State) (c c1 c2 : ClassId) : Nat → State
  | 0 => s.pushCell (k_out c s.heap.size 0)
  | i + 1 => (Multi.fill (k_fill3 s c c1 c2 i) c1 c2 40 4 (.int 0) 40).setCell s.heap.size (k_out c s.heap.size (i + 1))
theorem k_out_f (c : ClassId) (h0 : Nat) : ∀ i, (k_out c h0 i).cls = c ∧ (k_out c h0 i).vm = .none ∧ (k_out c h0 i).slots.size = 10
  | 0 => ⟨rfl, rfl, by simp [k_out]⟩
  | i + 1 => by
    obtain ⟨a, b, d⟩ := k_out_f c h0 i
    exact ⟨by simp [k_out, Cell.setSlot, a], by simp [k_out, Cell.setSlot, b], by simp [k_out, Cell.setSlot, d]⟩
theorem k_fill3_f (s : State) (c c1 c2 : ClassId) : ∀ i, (k_fill3 s c c1 c2 i).heap.size = s.heap.size + 1 + 41 * i ∧ (k_fill3 s c c1 c2 i).heap[s.heap.size]? = some (k_out c s.heap.size i) ∧ (k_fill3 s c c1 c2 i).vm = s.vm ∧ (k_fill3 s c c1 c2 i).slotsUsed = s.slotsUsed + 10 + 200 * i
  | 0 => ⟨by simp [k_fill3], by simp [k_fill3], rfl, by simp [k_fill3, k_out]⟩
  | i + 1 => by
    obtain ⟨a, b, d, u⟩ := k_fill3_f s c c1 c2 i
    obtain ⟨f1, f2, f3, f4⟩ := Multi.fill_facts (k_fill3 s c c1 c2 i) c1 c2 40 4 (.int 0) 40
    have hlt : s.heap.size < (k_fill3 s c c1 c2 i).heap.size := by omega
    have hb : (Multi.fill (k_fill3 s c c1 c2 i) c1 c2 40 4 (.int 0) 40).heap[s.heap.size]? = some (k_out c s.heap.size i) := by
      rw [Multi.fill_old (k_fill3 s c c1 c2 i) c1 c2 40 4 (.int 0) hlt 40]; exact b
    refine ⟨?_, State.heap_setCell_self hb, ?_, ?_⟩
    · show ((Multi.fill (k_fill3 s c c1 c2 i) c1 c2 40 4 (.int 0) 40).setCell s.heap.size (k_out c s.heap.size (i + 1))).heap.size = _
      have : ((Multi.fill (k_fill3 s c c1 c2 i) c1 c2 40 4 (.int 0) 40).setCell s.heap.size (k_out c s.heap.size (i + 1))).heap.size = (Multi.fill (k_fill3 s c c1 c2 i) c1 c2 40 4 (.int 0) 40).heap.size := by simp [State.setCell]
      rw [this, f1, a]
      omega
    · have e : k_fill3 s c c1 c2 (i + 1) = (Multi.fill (k_fill3 s c c1 c2 i) c1 c2 40 4 (.int 0) 40).setCell s.heap.size (k_out c s.heap.size (i + 1)) := by rw [k_fill3]
      rw [e, State.vm_setCell, f3, d]
    · have e : k_fill3 s c c1 c2 (i + 1) = (Multi.fill (k_fill3 s c c1 c2 i) c1 c2 40 4 (.int 0) 40).setCell s.heap.size (k_out c s.heap.size (i + 1)) := by rw [k_fill3]
      rw [e, State.slotsUsed_setCell, f4, u]
      omega
theorem k_fill3_old (s : State) (c c1 c2 : ClassId) {a : Addr} (ha : a < s.heap.size) : ∀ i, (k_fill3 s c c1 c2 i).heap[a]? = s.heap[a]?
  | 0 => State.heap_pushCell_of_lt _ _ ha
  | i + 1 => by
    have f1 := (k_fill3_f s c c1 c2 i).1
    show ((Multi.fill (k_fill3 s c c1 c2 i) c1 c2 40 4 (.int 0) 40).setCell s.heap.size _).heap[a]? = _
    rw [State.heap_setCell_other (Nat.ne_of_gt ha), Multi.fill_old (k_fill3 s c c1 c2 i) c1 c2 40 4 (.int 0) (a := a) (Nat.lt_of_lt_of_le ha (by rw [f1]; omega)) 40]
    exact k_fill3_old s c c1 c2 ha i
theorem k_fill3_mid (s : State) (c c1 c2 : ClassId) : ∀ i j, j < i → (k_fill3 s c c1 c2 i).heap[s.heap.size + 1 + 41 * j]? = some (Multi.outerC c1 40 (s.heap.size + 1 + 41 * j) 40) ∧ ∀ k, k < 40 → (k_fill3 s c c1 c2 i).heap[s.heap.size + 1 + 41 * j + 1 + k]? = some (Multi.innerC c2 4 (.int 0))
  | 0, _, h => absurd h (Nat.not_lt_zero _)
  | i + 1, j, h => by
    have f1 := (k_fill3_f s c c1 c2 i).1
    have up : ∀ a, a ≠ s.heap.size → (k_fill3 s c c1 c2 (i + 1)).heap[a]? = (Multi.fill (k_fill3 s c c1 c2 i) c1 c2 40 4 (.int 0) 40).heap[a]? := fun a ha => State.heap_setCell_other (Ne.symm ha)
    rcases Nat.lt_or_ge j i with hj | hj
    · obtain ⟨g1, g2⟩ := k_fill3_mid s c c1 c2 i j hj
      refine ⟨?_, fun k hk => ?_⟩
      · rw [up _ (by omega), Multi.fill_old (k_fill3 s c c1 c2 i) c1 c2 40 4 (.int 0) (a := s.heap.size + 1 + 41 * j) (show (s.heap.size + 1 + 41 * j : Nat) < (k_fill3 s c c1 c2 i).heap.size from by rw [f1]; omega) 40]; exact g1
      · rw [up _ (by omega), Multi.fill_old (k_fill3 s c c1 c2 i) c1 c2 40 4 (.int 0) (a := s.heap.size + 1 + 41 * j + 1 + k) (show (s.heap.size + 1 + 41 * j + 1 + k : Nat) < (k_fill3 s c c1 c2 i).heap.size from by rw [f1]; omega) 40]; exact g2 k hk
    · have e : j = i := by omega
      subst e
      obtain ⟨q1, q2, -, -⟩ := Multi.fill_facts (k_fill3 s c c1 c2 j) c1 c2 40 4 (.int 0) 40
      refine ⟨?_, fun k hk => ?_⟩
      · rw [up _ (by omega), ← f1]; exact q2
      · rw [up _ (by omega), ← f1]
        exact Multi.fill_inner (k_fill3 s c c1 c2 j) c1 c2 40 4 (.int 0) 40 k hk
theorem k_fill3_top (s : State) (f : JFrame) (c c1 c2 : ClassId) : ∀ i, k_fill3 (s.setTop f) c c1 c2 i = (k_fill3 s c c1 c2 i).setTop f
  | 0 => rfl
  | i + 1 => by
    show (Multi.fill (k_fill3 (s.setTop f) c c1 c2 i) c1 c2 40 4 (.int 0) 40).setCell (s.setTop f).heap.size (k_out c (s.setTop f).heap.size (i + 1)) = _
    rw [k_fill3_top s f c c1 c2 i, Multi.fill_setTop, State.setCell_setTop, State.heap_setTop]
    rw [k_fill3]
section KWP
variable {E : CtlPost} {e : Env} {d : Bool} {acts : List Action} {s : State}
theorem k_make3 {c c1 c2 cc : ClassId} {k3 k2 k1 : Class} {n m k : Int32} (h3 : s.vm.classes[c]? = some k3) (g3 : k3.kind = .array c1 (.array (.array .int))) (h2 : s.vm.classes[c1]? = some k2) (g2 : k2.kind = .array c2 (.array .int)) (h1 : s.vm.classes[c2]? = some k1) (g1 : k1.kind = .array cc .int)
    (hn : n = nI 10) (hm : m = nI 40) (hk : k = nI 4) (hlim : 1000 ≤ e.platform.arrayLengthLimit) (hmax : 1000 ≤ e.platform.maxHeapBytes)
    (hc : s.heap.size + 411 ≤ e.platform.maxCells) (hs : s.slotsUsed + 2010 ≤ e.platform.maxSlots)
    {Q : Addr → Pre} (hq : ∀ d' acts', Q s.heap.size d' acts' (k_fill3 s c c1 c2 10)) :
    wp (multianewarray.make c [n, m, k]) Q E e d acts s := by
  subst hn; subst hm; subst hk
  have e10 : (nI 10).toNatClampNeg = 10 := nI_clamp (by decide)
  have e40 : (nI 40).toNatClampNeg = 40 := nI_clamp (by decide)
  have e4 : (nI 4).toNatClampNeg = 4 := nI_clamp (by decide)
  have hfind : ([nI 40, nI 4].find? (· < 0)) = none := by decide
  rw [multianewarray.make]
  simp only [wp_bind', W.ite, show ¬ nI 10 < 0 by decide, if_false, wp_pure', W.theClass, h3, g3, Option.some.injEq, exists_eq_left', e10]
  refine Multi.wp_newArray h3 g3 (by omega) (by show ¬ 10 * 4 > _; omega) rfl rfl (by omega) (by omega) ?_
  simp only [hfind]
  rw [ite_self, wp_bind', Std.Legacy.Range.forIn_eq_forIn_range']
  have hsz : ([:10] : Std.Legacy.Range).size = 10 := by simp [Std.Legacy.Range.size]
  rw [hsz]
  show wp (forIn (List.range' 0 10 1) PUnit.unit _) _ E e d acts _
  refine wp_forIn_inv (fun rest s' => ∃ i, i ≤ 10 ∧ rest = List.range' i (10 - i) ∧ s' = k_fill3 s c c1 c2 i) _ _ ⟨0, Nat.zero_le _, rfl, rfl⟩ ?_ ?_
  · rintro x rest s' d' acts' Q' ⟨i, hi, hl, rfl⟩ hnext
    have hlt : i < 10 := by
      rcases Nat.lt_or_ge i 10 with h | h
      · exact h
      · rw [show 10 - i = 0 from by omega] at hl; simp at hl
    obtain ⟨rfl, hrest⟩ : x = i ∧ rest = List.range' (i + 1) (10 - (i + 1)) := by
      rw [show 10 - i = (10 - (i + 1)) + 1 from by omega, List.range'_succ] at hl
      exact ⟨(List.cons.inj hl).1, (List.cons.inj hl).2⟩
    obtain ⟨f1, f2, f3, f4⟩ := k_fill3_f s c c1 c2 x
    obtain ⟨o1, o2, o3⟩ := k_out_f c s.heap.size x
    simp only [wp_bind']
    refine Multi.wp_make2 (k := k2) (kc := k1) (comp := c2) (cc := cc) (t0 := .array .int) (type := .int) (by rw [f3]; exact h2) g2 rfl (by rw [f3]; exact h1) g1 (by decide) (by decide) (by rw [e40]; omega) (by rw [e40]; show ¬ 40 * 4 > _; omega) (by rw [e4]; omega) (by rw [e4]; show ¬ 4 * 4 > _; omega) rfl rfl (by rw [f1, e40]; omega) (by rw [f4, e40, e4]; omega) (fun d2 acts2 => ?_)
    rw [e40, e4]
    have hlt0 : s.heap.size < (k_fill3 s c c1 c2 x).heap.size := by rw [f1]; omega
    have hv := (Multi.fill_facts (k_fill3 s c c1 c2 x) c1 c2 40 4 (.int 0) 40).2.2.1
    simp only [wp_bind', W.writeLoc, wp_pure']
    refine ⟨k_out c s.heap.size x, ?_, by rw [o2]; simp, by rw [o3]; exact hlt, ?_, hnext _ _ _ ⟨x + 1, hlt, hrest, ?_⟩⟩
    · show (Multi.fill (k_fill3 s c c1 c2 x) c1 c2 40 4 (.int 0) 40).heap[s.heap.size]? = _
      rw [Multi.fill_old (k_fill3 s c c1 c2 x) c1 c2 40 4 (.int 0) hlt0 40]; exact f2
    · rw [o1, o2]
      show State.fitsSlot (Multi.fill (k_fill3 s c c1 c2 x) c1 c2 40 4 (.int 0) 40) c .none x (.ref _) = true
      have hcl : (Multi.fill (k_fill3 s c c1 c2 x) c1 c2 40 4 (.int 0) 40).vm.classes[c]? = some k3 := by rw [hv, f3]; exact h3
      simp [State.fitsSlot, State.slotType?, hcl, g3, Multi.refFits (t := .array (.array .int)) rfl _ (Or.inr ⟨_, rfl⟩)]
    · rw [f1]; rfl
  · rintro s' d' acts' ⟨i, hi, hl, rfl⟩
    have hiN : i = 10 := by
      rcases Nat.lt_or_ge i 10 with h | h
      · rw [show 10 - i = (10 - (i + 1)) + 1 from by omega, List.range'_succ] at hl; cases hl
      · omega
    subst hiN
    simp only [wp_pure']
    exact hq _ _
end KWP
section KST
variable {p : Program} {l : Launch} {e : Env} {R : Room} {s : State} {m : MethodId} {args : Array Value} {below : List Frame} {meth : Method} {c : Code} {T : State} {locs : List Loc} {cells slots : Nat}
theorem k_filled (X : Stand p l e R s m args below meth c T locs cells slots) (cA comp : ClassId) (N M : Nat) (dv : Value) (i : Nat) : Stand p l e R s m args below meth c (Multi.fill T cA comp N M dv i) locs (cells + 1 + i) (slots + N + i * M) :=
  (Stand.filled X cA comp N M dv i).dropFresh (fun x hx => by
    obtain ⟨j, -, rfl⟩ := List.mem_map.mp hx
    exact X.heapGrown)
theorem k_filled3 (X : Stand p l e R s m args below meth c T locs cells slots) (c3 c1 c2 : ClassId) : ∀ i, Stand p l e R s m args below meth c (k_fill3 T c3 c1 c2 i) locs (cells + 1 + 41 * i) (slots + 10 + 200 * i)
  | 0 => by
    have h := X.pushed (k_out c3 T.heap.size 0)
    rw [(k_out_f c3 T.heap.size 0).2.2] at h
    exact h
  | i + 1 => by
    have Xi := k_filled (k_filled3 X c3 c1 c2 i) c1 c2 40 4 (.int 0) 40
    obtain ⟨f1, f2, f3, f4⟩ := k_fill3_f T c3 c1 c2 i
    have hlt0 : T.heap.size < (k_fill3 T c3 c1 c2 i).heap.size := by rw [f1]; omega
    have hcell : (Multi.fill (k_fill3 T c3 c1 c2 i) c1 c2 40 4 (.int 0) 40).heap[T.heap.size]? = some (k_out c3 T.heap.size i) := by rw [Multi.fill_old (k_fill3 T c3 c1 c2 i) c1 c2 40 4 (.int 0) hlt0 40]; exact f2
    have h := (Xi.stored hcell i (.ref (T.heap.size + 1 + 41 * i))).dropFresh (fun x hx => by
      rw [List.mem_singleton] at hx
      subst hx
      exact X.heapGrown)
    have e1 : cells + 1 + 41 * (i + 1) = cells + 1 + 41 * i + 1 + 40 := by omega
    have e2 : slots + 10 + 200 * (i + 1) = slots + 10 + 200 * i + 40 + 40 * 4 := by omega
    rw [e1, e2]
    exact h
end KST
