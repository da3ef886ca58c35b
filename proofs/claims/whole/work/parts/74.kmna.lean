/-! new int[N][K] and new int[10][40][4] over the exact heap; what the made regions hold -/
theorem k_s2 : "[" ++ (FieldType.array .int).toString = "[[I" := by decide +kernel
theorem k_s3 : "[" ++ (FieldType.array (.array .int)).toString = "[[[I" := by decide +kernel
section KR2
variable {X : gX} {cc : ByteArray} {nL pc n mc ms : Nat} {own : String} {R : Room} {E : Nat → va_E} {lv : List (Nat × Value)} {stk : List Value}
theorem kC_1 (C : kC X cc nL own R) : ∃ (k : Class) (cx : ClassId), (Xs X).vm.classes[(XG X).2.1 0]? = some k ∧ k.kind = .array cx .int := by
  obtain ⟨-, kA', h2, comp, h3⟩ := (C.2.2.2.2.2.1.2 0 _ rfl).1 0 (fun _ => .null)
  exact ⟨kA', comp, h2, h3⟩
theorem kC_2 (C : kC X cc nL own R) : (Xs X).vm.findClass "[[I" = some ((XG X).2.1 2) := by
  rw [← k_s2]
  exact (C.2.2.2.2.2.1.2 2 _ rfl).2
theorem kC_3 (C : kC X cc nL own R) : (Xs X).vm.findClass "[[[I" = some ((XG X).2.1 3) := by
  rw [← k_s3]
  exact (C.2.2.2.2.2.1.2 3 _ rfl).2
theorem k_refs {Gw : gW} (hI : kI Gw) (n N d : Nat) {h : Nat} (hh : h = Gw.2.2 n) (f : Nat → Nat) (hf : ∀ k, h + 1 + d * k = Gw.2.2 (f k)) : (fun k => if k < N then some (h + 1 + d * k) else none) = fun k => if k < N then some (Gw.2.2 (f k)) else none := by
  funext k
  rw [hf k]
theorem k_mna2 (C : kC X cc nL own R) {index : Nat} (N K : Nat) (hcl : Cond.classLink own index "[[I" ∈ gB) (hN : N ≤ 100) (hK : K ≤ 100) (hR : mc + (1 + N) ≤ R.cells ∧ ms + (N + N * K) ≤ R.slots) (hdg : decode cc pc = .ok (.multianewarray index 2, 4))
    (hE0 : E n = k_aR ((XG X).2.1 2) N (fun k => (XG X).2.2 (n + 1 + k))) (hE1 : ∀ j, j < N → E (n + 1 + j) = k_aZ ((XG X).2.1 0) K)
    (kk : KK X nL E (n + 1 + N) (mc + 1 + N) (ms + N + N * K) (pc + 4) lv (.ref (Xd X n) :: stk)) : KK X nL E n mc ms pc lv (.int (nI K) :: .int (nI N) :: stk) := by
  have hRR : XR X = R := C.2.2.2.2.2.2.2.2.2.1
  have hI : kI (XG X) := C.2.2.2.2.2.2.1
  obtain ⟨k1, cx, h1, g1⟩ := kC_1 C
  obtain ⟨⟨k2, h2, g2⟩, -⟩ := C.2.2.2.2.2.2.2.2.2.2
  intro H locs ls hP hS h
  refine k_mna2W C.1 C.2.1 C.2.2.2.1 (C.2.2.2.2.1 _ hcl) (kC_2 C) h2 g2 h1 g1 hN hK (by rw [hRR]; exact hR.1) (by rw [hRR]; exact hR.2) hdg fun H1 z1 o1 e0 e1 => ?_
  have hz : H.size = (XG X).2.2 n := hP.1
  rw [hz] at e0 e1
  have hx : kx (XG X) E (n + 1 + N) H1 := by
    refine ⟨by rw [z1, hz, hI n, hI (n + 1 + N)]; omega, fun r hr => ?_⟩
    rcases Nat.lt_trichotomy r n with q | q | q
    · exact (hP.2 r q).kept (o1 _ (by rw [hz, hI n]; show (XG X).2.2 r < _; rw [hI r]; omega))
    · subst q
      rw [hE0]
      show H1[(XG X).2.2 r]? = some (vp_cell _ _)
      rw [e0]
      have ef : (fun k => if k < N then some ((XG X).2.2 r + 1 + k) else none) = fun k => if k < N then some ((XG X).2.2 (r + 1 + k)) else none := by
        funext k
        rw [hI (r + 1 + k), hI r, Nat.add_assoc ((XG X).2.2 0) r 1, Nat.add_assoc ((XG X).2.2 0) (r + 1) k]
      rw [ef]
    · obtain ⟨j, rfl⟩ : ∃ j, r = n + 1 + j := ⟨r - (n + 1), by omega⟩
      rw [hE1 j (by omega)]
      show H1[(XG X).2.2 (n + 1 + j)]? = some (vp_cell _ _)
      have h3 := e1 j (by omega)
      rw [show (XG X).2.2 n + 1 + j = (XG X).2.2 (n + 1 + j) by rw [hI n, hI (n + 1 + j)]; omega] at h3
      exact h3
  have hk := kk H1 locs ls hx ⟨Nat.le_trans hS.1 (by omega), fun x h1 h2 => (o1 x (Nat.lt_of_lt_of_le h1 hS.1)).trans (hS.2.1 x h1 h2), hS.2.2⟩ h
  rw [hz]
  exact hk
theorem k_mna3 (C : kC X cc nL own R) {index : Nat} (hcl : Cond.classLink own index "[[[I" ∈ gB) (hR : mc + 411 ≤ R.cells ∧ ms + 2010 ≤ R.slots) (hdg : decode cc pc = .ok (.multianewarray index 3, 4))
    (hE0 : E n = k_aR ((XG X).2.1 3) 10 (fun k => (XG X).2.2 (n + 1 + 41 * k))) (hE1 : ∀ i, i < 10 → E (n + 1 + 41 * i) = k_aR ((XG X).2.1 2) 40 (fun k => (XG X).2.2 (n + 1 + 41 * i + 1 + k)) ∧ ∀ j, j < 40 → E (n + 1 + 41 * i + 1 + j) = k_aZ ((XG X).2.1 0) 4)
    (kk : KK X nL E (n + 411) (mc + 411) (ms + 2010) (pc + 4) lv (.ref (Xd X n) :: stk)) : KK X nL E n mc ms pc lv (.int (nI 4) :: .int (nI 40) :: .int (nI 10) :: stk) := by
  have hRR : XR X = R := C.2.2.2.2.2.2.2.2.2.1
  have hI : kI (XG X) := C.2.2.2.2.2.2.1
  obtain ⟨k1, cx, h1, g1⟩ := kC_1 C
  obtain ⟨⟨k2, h2, g2⟩, k3, h3, g3⟩ := C.2.2.2.2.2.2.2.2.2.2
  intro H locs ls hP hS h
  refine k_mna3W C.1 C.2.1 C.2.2.2.1 (C.2.2.2.2.1 _ hcl) (kC_3 C) h3 g3 h2 g2 h1 g1 (by rw [hRR]; exact hR.1) (by rw [hRR]; exact hR.2) hdg fun H1 z1 o1 e0 e1 => ?_
  have hz : H.size = (XG X).2.2 n := hP.1
  rw [hz] at e0 e1
  have hx : kx (XG X) E (n + 411) H1 := by
    refine ⟨by rw [z1, hz, hI n, hI (n + 411)]; omega, fun r hr => ?_⟩
    rcases Nat.lt_trichotomy r n with q | q | q
    · exact (hP.2 r q).kept (o1 _ (by rw [hz, hI n]; show (XG X).2.2 r < _; rw [hI r]; omega))
    · subst q
      rw [hE0]
      show H1[(XG X).2.2 r]? = some (vp_cell _ _)
      rw [e0]
      have ef : (fun k => if k < 10 then some ((XG X).2.2 r + 1 + 41 * k) else none) = fun k => if k < 10 then some ((XG X).2.2 (r + 1 + 41 * k)) else none := by
        funext k
        rw [hI (r + 1 + 41 * k), hI r, Nat.add_assoc ((XG X).2.2 0) r 1, Nat.add_assoc ((XG X).2.2 0) (r + 1) (41 * k)]
      rw [ef]
    · obtain ⟨i, hi, hq⟩ : ∃ i, i < 10 ∧ (r = n + 1 + 41 * i ∨ ∃ j, j < 40 ∧ r = n + 1 + 41 * i + 1 + j) := by
        refine ⟨(r - (n + 1)) / 41, by omega, ?_⟩
        by_cases h0 : (r - (n + 1)) % 41 = 0
        · exact Or.inl (by omega)
        · exact Or.inr ⟨(r - (n + 1)) % 41 - 1, by omega, by omega⟩
      obtain ⟨a1, a2⟩ := hE1 i hi
      obtain ⟨b1, b2⟩ := e1 i hi
      have em : (XG X).2.2 n + 1 + 41 * i = (XG X).2.2 (n + 1 + 41 * i) := by rw [hI n, hI (n + 1 + 41 * i)]; omega
      rw [em] at b1 b2
      rcases hq with rfl | ⟨j, hj, rfl⟩
      · rw [a1]
        show H1[(XG X).2.2 (n + 1 + 41 * i)]? = some (vp_cell _ _)
        rw [b1]
        have ef : (fun k => if k < 40 then some ((XG X).2.2 (n + 1 + 41 * i) + 1 + k) else none) = fun k => if k < 40 then some ((XG X).2.2 (n + 1 + 41 * i + 1 + k)) else none := by
          funext k
          rw [hI (n + 1 + 41 * i + 1 + k), hI (n + 1 + 41 * i), Nat.add_assoc ((XG X).2.2 0) (n + 1 + 41 * i) 1, Nat.add_assoc ((XG X).2.2 0) (n + 1 + 41 * i + 1) k]
        rw [ef]
      · rw [a2 j hj]
        show H1[(XG X).2.2 (n + 1 + 41 * i + 1 + j)]? = some (vp_cell _ _)
        have h3 := b2 j hj
        rw [show (XG X).2.2 (n + 1 + 41 * i) + 1 + j = (XG X).2.2 (n + 1 + 41 * i + 1 + j) by rw [hI (n + 1 + 41 * i), hI (n + 1 + 41 * i + 1 + j)]; omega] at h3
        exact h3
  have hk := kk H1 locs ls hx ⟨Nat.le_trans hS.1 (by omega), fun x h1 h2 => (o1 x (Nat.lt_of_lt_of_le h1 hS.1)).trans (hS.2.1 x h1 h2), hS.2.2⟩ h
  rw [hz]
  exact hk
end KR2
/-- what a region holds when it is made -/
def kT (Gw : gW) (r : Nat) : va_E := g_el Gw g_s0 r
theorem kT_z {Gw : gW} {r t N : Nat} (hsh : g_sh r = .inr (t, N, none)) (hr : r ≠ 57) : kT Gw r = k_aZ (Gw.2.1 t) N := by
  unfold kT g_el
  rw [hsh]
  show Sum.inl (Gw.2.1 t, N, Sum.inl (g_s0 r)) = _
  have e : g_s0 r = fun _ => 0 := by
    funext k
    show up (fun _ _ => 0) 57 4 1 r k = 0
    rw [up_ne _ _ (fun q => hr q.1)]
  rw [e]
  rfl
theorem kT_q {Gw : gW} {r t N b : Nat} (f : Nat → Nat) (hsh : g_sh r = .inr (t, N, some b)) (hf : ∀ k, b + g_ch t k = f k) : kT Gw r = k_aR (Gw.2.1 t) N (fun k => Gw.2.2 (f k)) := by
  unfold kT g_el
  rw [hsh]
  show Sum.inl (Gw.2.1 t, N, Sum.inr (Sum.inr (Sum.inr (Sum.inr (fun k => if k < N then some (Gw.2.2 (b + g_ch t k)) else none))))) = _
  unfold k_aR
  have e : (fun k => if k < N then some (Gw.2.2 (b + g_ch t k)) else none) = fun k => if k < N then some (Gw.2.2 (f k)) else none := by
    funext k
    rw [hf k]
  rw [e]
theorem kT_o {Gw : gW} {r ci : Nat} {fl : List (Option Nat)} {fs : List Value} (hsh : g_sh r = .inl (ci, fl)) (h : g_fv Gw.2.2 (g_s0 r) 0 fl = fs) : kT Gw r = .inr (ci, fs) := by
  unfold kT g_el
  rw [hsh]
  show Sum.inr (ci, g_fv Gw.2.2 (g_s0 r) 0 fl) = _
  rw [h]
theorem kT_rows {b N t K : Nat} (h : ∀ j, j < N → g_sh (b + j) = .inr (t, K, none) ∧ b + j ≠ 57) (Gw : gW) : ∀ j, j < N → kT Gw (b + j) = k_aZ (Gw.2.1 t) K := fun j hj => kT_z (h j hj).1 (h j hj).2
theorem k_wai : Cond.arrayClass .int ∈ gB := g_mem 84 (by decide +kernel) rfl
theorem k_waz : Cond.arrayClass .boolean ∈ gB := g_mem 138 (by decide +kernel) rfl
