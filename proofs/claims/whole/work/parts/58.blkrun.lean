/-! THE CLASS EXECUTES A PACKED BLOCK -/
theorem pwC_ce {P : gP} {s : MS} {i : Nat} : pwC P i (ceP P s i) = pw P s i := by
  unfold pw pwC ceP
  by_cases q : 10 ≤ pop P i
  · rw [if_pos q, if_pos q]
  · rw [if_neg q, if_neg q]
    by_cases q9 : pop P i = 9
    · rw [if_pos q9, if_pos q9, if_pos (Or.inr q9)]
    · rw [if_neg q9, if_neg q9]
theorem ceP_lt {P : gP} {s : MS} {i : Nat} : ceP P s i < 16 := by
  unfold ceP
  by_cases q : pop P i = 8 ∨ pop P i = 9
  · rw [if_pos q]; exact (and15 _).2
  · rw [if_neg q]; decide
def stoI (P : gP) (s : MS) (b nx : Nat) (τ : sg) : Prop := ∀ m, b + m < nx → τ 155 (b + m) = vk P s b m ∧ τ 156 (b + m) = nI (ceP P (sqN P s b m) (b + m))
def grI (G : Nat → Nat) (b L : Nat) (τ : sg) : Prop := ∀ i, b ≤ i → i < b + L → τ 141 i = nI (G i) ∧ G i ≤ 180
section
variable {σ : sg} {P : gP} {s : MS} {b L o : Nat} {G : Nat → Nat}
theorem x0_del (hI : rI σ P) (hV : pVs P) (h40 : b + L ≤ 40) (hB : blkOK P b L G) (ho : oMa o) {g nx : Nat} (hg : g ≤ 1000) (hm : mS σ o (nN P s b G g L)) (hs : stoI P s b nx σ) (hG : grI G b L σ) (h1 : b ≤ nx) (h2 : nx ≤ b + L) (h3 : ∀ i, nx ≤ i → i < b + L → g ≤ G i) : ∃ σ', f_X0_deliver σ o (nI b) (nI nx) (nI g) = some σ' ∧ mS σ' o (nN P s b G (g + 1) L) ∧ ∀ r, r ≠ o + 1 → r ≠ o + 2 → σ' r = σ r := by
  have hor : oMa o → o = 145 ∨ o = 148 ∨ o = 151 := id
  have ho3 := hor ho
  have late : ∀ m, m < L → nx ≤ b + m → due P G (b + m) ≠ g := fun m q1 q2 => by
    have := h3 (b + m) q2 (by omega)
    have := latN_pos (pop P (b + m))
    unfold due
    omega
  unfold f_X0_deliver L_X0_deliver_5
  refine Exists.elim (loop_c2 (F := B_X0_deliver_5 o (nI b) (nI g)) (nx - b) (fun k x τ => x = nI (nx - k) - nI 1 ∧ (∃ st, mS τ o st ∧ dlv P s b L G g (fun m => nx - k ≤ b + m) st) ∧ ∀ r, r ≠ o + 1 → r ≠ o + 2 → τ r = σ r) (fun z => mS z o (nN P s b G (g + 1) L) ∧ ∀ r, r ≠ o + 1 → r ≠ o + 2 → z r = σ r) (fun k x τ hk hR => ?_) (fu := gN) (gN_gt (by omega)) (a := nI nx - 1) (b := σ) ⟨rfl, ⟨_, hm, dlv_0 (fun m q1 q2 => late m q1 q2) (fun _ _ => rfl)⟩, fun _ _ _ => rfl⟩) (fun z hz => ⟨z, hz.1, hz.2⟩)
  obtain ⟨rfl, ⟨st, hst, hd⟩, hfr⟩ := hR
  show (∃ a' c', B_X0_deliver_5 o (nI b) (nI g) (nI (nx - k) - nI 1) τ = some (.inl (a', c')) ∧ _) ∨ _
  have fin : (∀ m, m < L → due P G (b + m) = g → nx - k ≤ b + m) → mS τ o (nN P s b G (g + 1) L) := fun h => by
    have := dlv_N hV h40 hB hd h
    exact ⟨fun j hj => by rw [hst.1 j hj, this j (by omega)], fun j hj => by rw [hst.2 j hj, this (8 + j) (by omega)]⟩
  unfold B_X0_deliver_5 J_X0_deliver_70
  by_cases e : k = nx - b
  · rw [if_pos (show nI (nx - k) - nI 1 < nI b by rw [ltT (by omega), subT (by omega)]; omega)]
    exact Or.inr ⟨_, rfl, fin (fun m q1 q2 => by omega), hfr⟩
  · obtain ⟨m, hm'⟩ : ∃ m, nx - k = b + m + 1 := ⟨nx - k - b - 1, by omega⟩
    have hmL : m < L := by omega
    have hi40 : b + m < 40 := by omega
    obtain ⟨g1, g2⟩ := hG (b + m) (by omega) (by omega)
    have hIτ : rI τ P := rI_fr hI (fun r q1 q2 => hfr r (by omega) (by omega))
    rw [hm', dec_nI, if_neg (show ¬ nI (b + m) < nI b by rw [nI_lti (by omega) (by omega)]; omega), ld_141 hi40, Option.bind_some, hfr 141 (by omega) (by omega), g1, l_3, nI_add]
    by_cases e3 : G (b + m) + 3 < g
    · rw [if_pos (show nI (G (b + m) + 3) < nI g by rw [nI_lti (by omega) (by omega)]; exact e3)]
      refine Or.inr ⟨_, rfl, fin (fun m' q1 q2 => ?_), hfr⟩
      by_cases q : m' ≤ m
      · have q3 := (hB (b + m) (by omega) (by omega)).2 (b + m') (by omega) (by omega)
        have q4 := latN_le (pop P (b + m'))
        unfold due at q2
        omega
      · omega
    · rw [if_neg (show ¬ nI (G (b + m) + 3) < nI g by rw [nI_lti (by omega) (by omega)]; exact e3)]
      have hl := latN_le (pop P (b + m))
      have hdue : f_X5_due τ (nI (b + m)) = some (nI (due P G (b + m))) := by
        unfold f_X5_due due
        rw [ld_141 hi40, Option.bind_some, hfr 141 (by omega) (by omega), g1, x6_lat hIτ hi40 (hV _ hi40), Option.bind_some, nI_add]
      have hdl : due P G (b + m) < 1000 := by unfold due; omega
      have hst2 : nI (b + m) + (-1 : Int32) = nI (nx - (k + 1)) - nI 1 := by
        rw [add_m1, show nx - (k + 1) = b + m by omega]
      rw [hdue, Option.bind_some]
      by_cases ed : due P G (b + m) = g
      · rw [if_pos (show nI (due P G (b + m)) = nI g by rw [ed]), ldr_2 hi40, Option.bind_some, ld_156 hi40, Option.bind_some, ld_155 hi40, Option.bind_some, hfr 155 (by omega) (by omega), hfr 156 (by omega) (by omega), (hs m (by omega)).1, (hs m (by omega)).2]
        obtain ⟨τ1, w1, w2, w3⟩ := x4_take (v := vk P s b m) hIτ ho hst hi40 (hV _ hi40) (ceP_lt (P := P) (s := sqN P s b m) (i := b + m))
        rw [w1, Option.bind_some]
        rw [pwC_ce] at w2
        refine Or.inl ⟨_, τ1, rfl, by omega, hst2, ⟨_, w2, dlv_c (dlv_1 hV h40 hB hmL ed hd) (fun m' q1 q2 => ?_)⟩, fun r q1 q2 => by rw [w3 r q1 q2, hfr r q1 q2]⟩
        show (nx - k ≤ b + m' ∨ m' = m) ↔ nx - (k + 1) ≤ b + m'
        omega
      · rw [if_neg (show ¬ nI (due P G (b + m)) = nI g by rw [nI_inj (by omega) (by omega)]; exact ed)]
        refine Or.inl ⟨_, τ, rfl, by omega, hst2, ⟨_, hst, dlv_c hd (fun m' q1 q2 => ?_)⟩, hfr⟩
        show nx - k ≤ b + m' ↔ nx - (k + 1) ≤ b + m'
        have : m' ≠ m := fun w => ed (by rw [← w]; exact q2)
        omega
/-- the successor after the instructions below nx -/
def sxI (P : gP) (s : MS) (b e nx : Nat) : Int32 := if nx = b then nI e else sucI P (sqN P s b (nx - 1 - b)) (nx - 1)
theorem x0_grp (hI : rI σ P) (hV : pVs P) (h40 : b + L ≤ 40) (hB : blkOK P b L G) (ho : oMa o) {g nx u : Nat} (hg : g ≤ 1000) (hm : mS σ o (nN P s b G (g + 1) L)) (hs : stoI P s b nx σ) (hG : grI G b L σ) (h1 : b ≤ nx) (h2 : nx ≤ b + L) (h3 : ∀ i, nx ≤ i → i < b + L → g ≤ G i) (h4 : ∀ i, b ≤ i → i < nx → G i < g + 1) : ∃ (ny : Nat) (σ' : sg), L_X0_execute_57 o (nI u) (nI b) (nI (b + L)) (nI g) gN (nI nx, sxI P s b (b + L) nx, σ) = some (.inl (nI ny, sxI P s b (b + L) ny, nI (g + 1), σ')) ∧ b ≤ ny ∧ ny ≤ b + L ∧ (∀ i, b ≤ i → i < ny → G i < g + 1) ∧ (∀ i, ny ≤ i → i < b + L → g + 1 ≤ G i) ∧ mS σ' o (nN P s b G (g + 1) L) ∧ stoI P s b ny σ' ∧ ∀ r, r ≠ 155 → r ≠ 156 → σ' r = σ r := by
  have hor : oMa o → o = 145 ∨ o = 148 ∨ o = 151 := id
  have ho3 := hor ho
  unfold L_X0_execute_57
  refine Exists.elim (loop_c3 (F := B_X0_execute_57 o (nI u) (nI b) (nI (b + L)) (nI g)) (b + L - nx) (fun k x y τ => x = nI (nx + k) ∧ y = sxI P s b (b + L) (nx + k) ∧ (∀ i, b ≤ i → i < nx + k → G i < g + 1) ∧ stoI P s b (nx + k) τ ∧ ∀ r, r ≠ 155 → r ≠ 156 → τ r = σ r) (fun z => ∃ (ny : Nat) (σ' : sg), z = .inl (nI ny, sxI P s b (b + L) ny, nI (g + 1), σ') ∧ b ≤ ny ∧ ny ≤ b + L ∧ (∀ i, b ≤ i → i < ny → G i < g + 1) ∧ (∀ i, ny ≤ i → i < b + L → g + 1 ≤ G i) ∧ stoI P s b ny σ' ∧ ∀ r, r ≠ 155 → r ≠ 156 → σ' r = σ r) (fun k x y τ hk hR => ?_) (fu := gN) (gN_gt (by omega)) (a := nI nx) (b := sxI P s b (b + L) nx) (c := σ) ⟨rfl, rfl, h4, hs, fun _ _ _ => rfl⟩) (fun z hz => by
    obtain ⟨z1, ny, σ', rfl, z2, z3, z4, z5, z6, z7⟩ := hz
    exact ⟨ny, σ', z1, z2, z3, z4, z5, ⟨fun j hj => by rw [z7 (o + 1) (by omega) (by omega)]; exact hm.1 j hj, fun j hj => by rw [z7 (o + 2) (by omega) (by omega)]; exact hm.2 j hj⟩, z6, z7⟩)
  obtain ⟨rfl, rfl, h5, hsk, hfr⟩ := hR
  unfold B_X0_execute_57 J_X0_execute_145
  by_cases ke : k = b + L - nx
  · rw [if_pos (show nI (b + L) ≤ nI (nx + k) by rw [nI_lei (by omega) (by omega)]; omega), Option.bind_some, l_1, nI_add]
    exact Or.inr ⟨_, rfl, nx + k, τ, rfl, by omega, by omega, h5, fun i q1 q2 => by omega, hsk, hfr⟩
  · obtain ⟨m, hm'⟩ : ∃ m, nx + k = b + m := ⟨nx + k - b, by omega⟩
    have hmL : m < L := by omega
    have hi40 : b + m < 40 := by omega
    obtain ⟨g1, g2⟩ := hG (b + m) (by omega) (by omega)
    rw [if_neg (show ¬ nI (b + L) ≤ nI (nx + k) by rw [nI_lei (by omega) (by omega)]; omega), hm', ld_141 hi40, Option.bind_some, hfr 141 (by decide) (by decide), g1]
    by_cases eg : G (b + m) = g
    · have hIτ : rI τ P := rI_fr hI (fun r q1 q2 => hfr r (by omega) (by omega))
      have hmτ : mS τ o (nN P s b G (g + 1) L) := ⟨fun j hj => by rw [hfr (o + 1) (by omega) (by omega)]; exact hm.1 j hj, fun j hj => by rw [hfr (o + 2) (by omega) (by omega)]; exact hm.2 j hj⟩
      have hall := rd_all (s := s) hV h40 hB hmL
      rw [eg] at hall
      obtain ⟨a1, a2, a3, a4, a5⟩ := hall
      rw [if_pos (show nI (G (b + m)) = nI g by rw [eg]), ldr_2 hi40, Option.bind_some, x4_res hIτ ho hmτ hi40 (hV _ hi40), Option.bind_some, a1, st_155 hi40, Option.bind_some, Option.bind_some]
      obtain ⟨τ1, hτ1⟩ : ∃ τ1, τ1 = up τ 155 (b + m) (vk P s b m) := ⟨_, rfl⟩
      have u1 : ∀ r, r ≠ 155 → τ1 r = τ r := fun r hr => by rw [hτ1, up_r hr]
      have hI1 : rI τ1 P := rI_fr hIτ (fun r q1 q2 => u1 r (by omega))
      have hm1 : mS τ1 o (nN P s b G (g + 1) L) := ⟨fun j hj => by rw [u1 (o + 1) (by omega)]; exact hmτ.1 j hj, fun j hj => by rw [u1 (o + 2) (by omega)]; exact hmτ.2 j hj⟩
      rw [← hτ1, x4_cel hI1 ho hm1 hi40 (hV _ hi40), Option.bind_some, a2, st_156 hi40, Option.bind_some, Option.bind_some]
      obtain ⟨τ2, hτ2⟩ : ∃ τ2, τ2 = up τ1 156 (b + m) (nI (ceP P (sqN P s b m) (b + m))) := ⟨_, rfl⟩
      have u2 : ∀ r, r ≠ 155 → r ≠ 156 → τ2 r = τ r := fun r q1 q2 => by rw [hτ2, up_r q2, u1 r q1]
      have hI2 : rI τ2 P := rI_fr hIτ (fun r q1 q2 => u2 r (by omega) (by omega))
      have hm2 : mS τ2 o (nN P s b G (g + 1) L) := ⟨fun j hj => by rw [u2 (o + 1) (by omega) (by omega)]; exact hmτ.1 j hj, fun j hj => by rw [u2 (o + 2) (by omega) (by omega)]; exact hmτ.2 j hj⟩
      rw [← hτ2, x4_suc hI2 ho hm2 hi40 (hV _ hi40), Option.bind_some, a5]
      refine Or.inl ⟨_, _, τ2, rfl, by omega, ?_, ?_, fun i q1 q2 => ?_, fun m' q1 => ?_, fun r q1 q2 => by rw [u2 r q1 q2, hfr r q1 q2]⟩
      · rw [l_1, nI_add, ← hm']; rfl
      · show _ = sxI P s b (b + L) (nx + (k + 1))
        unfold sxI
        rw [if_neg (by omega), show nx + (k + 1) - 1 - b = m by omega, show nx + (k + 1) - 1 = b + m by omega]
      · by_cases ei : i = b + m
        · rw [ei, eg]; exact Nat.lt_succ_self g
        · exact h5 i q1 (by omega)
      · by_cases em : m' = m
        · subst em
          rw [hτ2, up_same, up_r (by decide), hτ1, up_same]
          exact ⟨rfl, rfl⟩
        · rw [hτ2, up_r (by decide), up_k (by omega), hτ1, up_k (by omega), up_r (by decide)]
          exact hsk m' (by omega)
    · rw [if_neg (show ¬ nI (G (b + m)) = nI g by rw [nI_inj (by omega) (by omega)]; exact eg), Option.bind_some, l_1, nI_add, ← hm']
      refine Or.inr ⟨_, rfl, nx + k, τ, rfl, by omega, by omega, h5, fun i q1 q2 => ?_, hsk, hfr⟩
      have q3 := (hB i (by omega) q2).2 (nx + k) (by omega) q1
      have q4 := h3 (nx + k) (by omega) (by omega)
      rw [hm'] at q3 q4
      omega
end
/-- the block where execution goes on: of the class -/
def atB (P : gP) (n : Nat) (v : Int32) (p : Nat) : Prop := (p < n → v = nI (nb P n (p + 1) - 1)) ∧ (¬ p < n → ¬ (0 ≤ v.toInt ∧ v.toInt < (nb P n n : Int)))
section
variable {σ : sg} {P : gP} {s : MS} {n o : Nat} {G : Nat → Nat}
theorem x0_at (hn1 : σ 1 1 = nI n) (hn : n ≤ 40) (h57 : σ 57 3 = nI (nb P n n)) (h59 : ∀ i, i < n → σ 59 i = nI (nb P n (i + 1) - 1)) {x : Int32} {p : Nat} (h : atI n x p) : ∃ v, f_X0_blockAt σ x = some v ∧ atB P n v p := by
  have hnb := nb_le P n n
  have m1 : (-1 : Int32).toInt = -1 := by decide
  unfold f_X0_blockAt
  by_cases hp : p < n
  · rw [h.1 hp, if_neg (show ¬ nI p = -1 from mI_ne (by decide) (by decide) (by omega)), x6_has hn1 hn, tf_if, Option.bind_some, if_tf, cif_t (by rw [nI_toInt (by omega)]; omega), ld_59 (by omega), Option.bind_some, h59 p hp]
    exact ⟨_, rfl, fun _ => rfl, fun q => absurd hp q⟩
  · by_cases c : x = -1
    · rw [if_pos c]
      exact ⟨-1, rfl, fun q => absurd q hp, fun _ q => by rw [m1] at q; omega⟩
    · rw [if_neg c, x6_has hn1 hn, tf_if, Option.bind_some, if_tf, cif_f (h.2 hp), h57]
      exact ⟨_, rfl, fun q => absurd q hp, fun _ q => by rw [nI_toInt (by omega)] at q; omega⟩
theorem x0_exec {u : Nat} (hI : rI σ P) (hV : pVs P) (hn1 : σ 1 1 = nI n) (hn : n ≤ 40) (hc : cmpl P n) (hBK : BKI σ P n) (hu : u < nb P n n) (hB : blkOK P (bgn P n u) (bgn P n (u + 1) - bgn P n u) G) (hG : grI G (bgn P n u) (bgn P n (u + 1) - bgn P n u) σ) (h142 : σ 142 u = nI (mxN P G (bgn P n u) (bgn P n (u + 1) - bgn P n u))) (ho : oMa o) (hm : mS σ o s) : ∃ (v : Int32) (σ' : sg), f_X0_execute σ o (nI u) = some (v, σ') ∧ atB P n v (suc P n (sqN P s (bgn P n u) (bgn P n (u + 1) - bgn P n u - 1)) (bgn P n (u + 1) - 1)) ∧ mS σ' o (sqN P s (bgn P n u) (bgn P n (u + 1) - bgn P n u)) ∧ ∀ r, r ≠ o + 1 → r ≠ o + 2 → r ≠ 155 → r ≠ 156 → σ' r = σ r := by
  have hor : oMa o → o = 145 ∨ o = 148 ∨ o = 151 := id
  have ho3 := hor ho
  have hlt := bgn_lt (P := P) hu
  have hle := bgn_le (P := P) (n := n) (u + 1)
  have hnb := nb_le P n n
  obtain ⟨b, eb⟩ : ∃ b, b = bgn P n u := ⟨_, rfl⟩
  obtain ⟨L, eL⟩ : ∃ L, L = bgn P n (u + 1) - bgn P n u := ⟨_, rfl⟩
  have ebL : bgn P n (u + 1) = b + L := by omega
  have hL : 0 < L := by omega
  have h40 : b + L ≤ 40 := by omega
  obtain ⟨k1, k2, k3⟩ := hBK
  rw [← eL, ← eb] at hB hG h142
  rw [← eL, ebL, ← eb]
  have hmx : mxN P G b L ≤ 183 := mxN_le L (fun i q1 q2 => (hG i q1 q2).2)
  unfold f_X0_execute L_X0_execute_33
  rw [ld_58 (by omega), Option.bind_some, k3 u (by omega), l_1, nI_add, ld_58 (by omega), Option.bind_some, k3 (u + 1) (by omega), ebL, ← eb, l_0]
  refine Exists.elim (loop_c4 (F := B_X0_execute_33 o (nI u) (nI b) (nI (b + L))) (mxN P G b L + 1) (fun g x y z τ => ∃ nx, x = nI nx ∧ y = sxI P s b (b + L) nx ∧ z = nI g ∧ b ≤ nx ∧ nx ≤ b + L ∧ (∀ i, b ≤ i → i < nx → G i < g) ∧ (∀ i, nx ≤ i → i < b + L → g ≤ G i) ∧ mS τ o (nN P s b G g L) ∧ stoI P s b nx τ ∧ ∀ r, r ≠ o + 1 → r ≠ o + 2 → r ≠ 155 → r ≠ 156 → τ r = σ r) (fun z => atB P n z.1 (suc P n (sqN P s b (L - 1)) (b + L - 1)) ∧ mS z.2 o (sqN P s b L) ∧ ∀ r, r ≠ o + 1 → r ≠ o + 2 → r ≠ 155 → r ≠ 156 → z.2 r = σ r) (fun g x y z τ hk hR => ?_) (fu := gN) (gN_gt (by omega)) (a := nI b) (b := nI (b + L)) (c := nI 0) (d := σ) ⟨b, rfl, (if_pos rfl).symm, rfl, Nat.le_refl b, by omega, fun i q1 q2 => by omega, fun i _ _ => Nat.zero_le _, by rw [nN_beg]; exact hm, fun m q => by omega, fun _ _ _ _ _ => rfl⟩) (fun z hz => ⟨z.1, z.2, hz.1, hz.2⟩)
  obtain ⟨nx, rfl, rfl, rfl, n1, n2, n3, n4, n5, n6, hfr⟩ := hR
  unfold B_X0_execute_33
  have hIτ : rI τ P := rI_fr hI (fun r q1 q2 => hfr r (by omega) (by omega) (by omega) (by omega))
  have hGτ : grI G b L τ := fun i q1 q2 => by rw [hfr 141 (by omega) (by omega) (by decide) (by decide)]; exact hG i q1 q2
  rw [ld_142 (by omega), Option.bind_some, hfr 142 (by omega) (by omega) (by decide) (by decide), h142]
  by_cases ge : g = mxN P G b L + 1
  · rw [if_pos (show nI (mxN P G b L) < nI g by rw [nI_lti (by omega) (by omega)]; omega)]
    have hall : ∀ i, b ≤ i → i < b + L → G i + latN (pop P i) ≤ mxN P G b L := mxN_ge L
    have enx : nx = b + L := by
      by_cases q : nx < b + L
      · have q1 := n4 nx (Nat.le_refl _) q
        have q2 := hall nx n1 q
        have := latN_pos (pop P nx)
        omega
      · omega
    subst enx
    have esx : sxI P s b (b + L) (b + L) = sucI P (sqN P s b (L - 1)) (b + L - 1) := by
      unfold sxI
      rw [if_neg (by omega), show b + L - 1 - b = L - 1 by omega]
    have hend : nN P s b G g L = sqN P s b L := nN_end L (fun m hm => by
      have := hall (b + m) (by omega) (by omega)
      unfold due
      omega)
    obtain ⟨v, v1, v2⟩ := x0_at (P := P) (σ := τ) (by rw [hfr 1 (by omega) (by omega) (by decide) (by decide)]; exact hn1) hn (by rw [hfr 57 (by omega) (by omega) (by decide) (by decide)]; exact k1) (fun i hi => by rw [hfr 59 (by omega) (by omega) (by decide) (by decide)]; exact k2 i hi) (suc_at (s := sqN P s b (L - 1)) hc (i := b + L - 1) (by omega) hn)
    rw [esx, v1, Option.bind_some]
    exact Or.inr ⟨_, rfl, v2, by rw [← hend]; exact n5, hfr⟩
  · rw [if_neg (show ¬ nI (mxN P G b L) < nI g by rw [nI_lti (by omega) (by omega)]; omega)]
    obtain ⟨τ1, d1, d2, d3⟩ := x0_del hIτ hV h40 hB ho (by omega) n5 n6 hGτ n1 n2 n4
    rw [d1, Option.bind_some]
    obtain ⟨ny, τ2, w1, w2, w3, w4, w5, w6, w7, w8⟩ := x0_grp (u := u) (rI_fr hIτ (fun r q1 q2 => d3 r (by omega) (by omega))) hV h40 hB ho (g := g) (by omega) d2 (fun m q => by rw [d3 155 (by omega) (by omega), d3 156 (by omega) (by omega)]; exact n6 m q) (fun i q1 q2 => by rw [d3 141 (by omega) (by omega)]; exact hGτ i q1 q2) n1 n2 n4 (fun i q1 q2 => Nat.lt_succ_of_lt (n3 i q1 q2))
    rw [w1]
    exact Or.inl ⟨_, _, _, _, rfl, by omega, ny, rfl, rfl, rfl, w2, w3, w4, w5, w6, w7, fun r q1 q2 q3 q4 => by rw [w8 r q3 q4, d3 r q1 q2, hfr r q1 q2 q3 q4]⟩
end
