/-! NUMBERS, LOOPS, PLACES for the pure proofs -/
theorem nI_sub {a b : Nat} (h : b ≤ a) : nI a - nI b = nI (a - b) := by
  show Int32.ofNat a - Int32.ofNat b = Int32.ofNat (a - b)
  rw [← Int32.ofInt_eq_ofNat, ← Int32.ofInt_eq_ofNat, ← Int32.ofInt_eq_ofNat, ← Int32.ofInt_sub, Int.ofNat_sub h]
theorem nI_mul (a b : Nat) : nI a * nI b = nI (a * b) := by
  show Int32.ofNat a * Int32.ofNat b = Int32.ofNat (a * b)
  rw [← Int32.ofInt_eq_ofNat, ← Int32.ofInt_eq_ofNat, ← Int32.ofInt_eq_ofNat, ← Int32.ofInt_mul]
  congr 1
theorem nI_lti {a b : Nat} (ha : a < 2147483648) (hb : b < 2147483648) : (nI a < nI b) = (a < b) := by
  rw [Int32.lt_iff_toInt_lt, nI_toInt ha, nI_toInt hb]
  exact propext (by omega)
theorem nI_lei {a b : Nat} (ha : a < 2147483648) (hb : b < 2147483648) : (nI a ≤ nI b) = (a ≤ b) := by
  rw [Int32.le_iff_toInt_le, nI_toInt ha, nI_toInt hb]
  exact propext (by omega)
theorem nI_inj {a b : Nat} (ha : a < 2147483648) (hb : b < 2147483648) : (nI a = nI b) = (a = b) := by
  rw [← Int32.toInt_inj, nI_toInt ha, nI_toInt hb]
  exact propext (by omega)
theorem nI_div {a b : Nat} (ha : a < 2147483648) (hb : b < 2147483648) : nI a / nI b = nI (a / b) := by
  rw [← Int32.toInt_inj, Int32.toInt_div_of_ne_left, nI_toInt ha, nI_toInt hb, nI_toInt (Nat.lt_of_le_of_lt (Nat.div_le_self a b) ha)]
  · rw [Int.tdiv_eq_ediv_of_nonneg (by omega)]
    rfl
  · intro h
    have := nI_toInt ha
    rw [h, Int32.toInt_minValue] at this
    omega
theorem nI_mod {a b : Nat} (ha : a < 2147483648) (hb : b < 2147483648) : nI a - nI a / nI b * nI b = nI (a % b) := by
  rw [nI_div ha hb, nI_mul, nI_sub (by rw [Nat.mul_comm]; exact Nat.mul_div_le a b)]
  congr 1
  have := Nat.div_add_mod a b
  rw [Nat.mul_comm] at this
  omega
theorem nI_neg {a : Nat} (ha : a < 2147483648) : (nI a < 0) = False := eq_false (nI_pos ha)
theorem nI_ofi {x : Int32} (h : 0 ≤ x.toInt) : x = nI x.toInt.toNat := by
  rw [← Int32.toInt_inj, nI_toInt (by have := Int32.toInt_lt x; omega)]
  omega
theorem nI_ex {x : Int32} (n : Nat) (h0 : ¬ x < 0) (h : x < nI n) (hn : n < 2147483648) : ∃ k, k < n ∧ x = nI k := by
  rw [Int32.lt_iff_toInt_lt, Int32.toInt_zero] at h0
  rw [Int32.lt_iff_toInt_lt, nI_toInt hn] at h
  exact ⟨x.toInt.toNat, by omega, nI_ofi (by omega)⟩
theorem ix_nI {k n : Nat} (h : k < n) (hn : n < 2147483648) : ix (nI k) n = some k := by
  unfold ix
  rw [if_neg (nI_in h hn), nI_clamp (by omega)]
theorem ld_of {σ : sg} {r n k : Nat} (hs : g_sh r = .inr (0, n, none)) (h : k < n) (hn : n < 1000) : ld σ r (nI k) = some (σ r k) := by
  unfold ld
  rw [hs]
  show (ix (nI k) n).map (σ r) = _
  rw [ix_nI h (by omega)]
  rfl
theorem ldz_of {σ : sg} {r n k : Nat} (hs : g_sh r = .inr (1, n, none)) (h : k < n) (hn : n < 1000) : ldz σ r (nI k) = some (σ r k) := by
  unfold ldz
  rw [hs]
  show (ix (nI k) n).map (σ r) = _
  rw [ix_nI h (by omega)]
  rfl
theorem st_of {σ : sg} {r n k : Nat} {v : Int32} (hs : g_sh r = .inr (0, n, none)) (h : k < n) (hn : n < 1000) : st σ r (nI k) v = some (up σ r k v) := by
  unfold st
  rw [hs]
  show (ix (nI k) n).map _ = _
  rw [ix_nI h (by omega)]
  rfl
theorem stz_of {σ : sg} {r n k : Nat} {v : Int32} (hs : g_sh r = .inr (1, n, none)) (h : k < n) (hn : n < 1000) : stz σ r (nI k) v = some (up σ r k (vp_nar .boolean v)) := by
  unfold stz
  rw [hs]
  show (ix (nI k) n).map _ = _
  rw [ix_nI h (by omega)]
  rfl
theorem ldr_of {r n b k : Nat} (hs : g_sh r = .inr (2, n, some b)) (h : k < n) (hn : n < 1000) : ldr r (nI k) = some (b + k) := by
  unfold ldr
  rw [hs]
  show (ix (nI k) n).map _ = _
  rw [ix_nI h (by omega)]
  rfl
theorem ldr_of3 {r n b k : Nat} (hs : g_sh r = .inr (3, n, some b)) (h : k < n) (hn : n < 1000) : ldr r (nI k) = some (b + 41 * k) := by
  unfold ldr
  rw [hs]
  show (ix (nI k) n).map _ = _
  rw [ix_nI h (by omega)]
  rfl
theorem cp_of {σ : sg} {r q nr nq n : Nat} (hr : g_sh r = .inr (0, nr, none)) (hq : g_sh q = .inr (0, nq, none)) (hne : r ≠ q) (h1 : n ≤ nr) (h2 : n ≤ nq) (hn : n < 1000) : cp σ r (nI 0) q (nI 0) (nI n) = some (fun r' => if r' = q then (fun k => if k < n then σ r k else σ q k) else σ r') := by
  unfold cp
  rw [hr, hq]
  show (if r ≠ q ∧ ¬ nI 0 < 0 ∧ ¬ nI 0 < 0 ∧ ¬ nI n < 0 ∧ (nI 0).toNatClampNeg + (nI n).toNatClampNeg ≤ nr ∧ (nI 0).toNatClampNeg + (nI n).toNatClampNeg ≤ nq then some _ else none) = _
  have e0 : (nI 0).toNatClampNeg = 0 := nI_clamp (by omega)
  have en : (nI n).toNatClampNeg = n := nI_clamp (by omega)
  rw [e0, en, if_pos ⟨hne, nI_pos (by omega), nI_pos (by omega), nI_pos (by omega), by omega, by omega⟩]
  refine congrArg some (funext fun r' => ?_)
  by_cases h : r' = q
  · rw [if_pos h, if_pos h]
    funext k
    unfold va_cpy
    by_cases hk : k < n
    · rw [if_pos (by omega), if_pos hk]
      congr 1
      omega
    · rw [if_neg (by omega), if_neg hk]
  · rw [if_neg h, if_neg h]
/-! rows -/
theorem shr_3 {i : Nat} (h : i < 40) : g_sh (3 + i) = .inr (0, 4, none) := by
  unfold g_sh g_sh1; rw [if_pos (by omega), if_neg (by omega), if_pos (by omega)]; rfl
theorem shr_47 {i : Nat} (h : i < 10) : g_sh (47 + i) = .inr (0, 4, none) := by
  unfold g_sh g_sh1; rw [if_pos (by omega), if_neg (by omega), if_neg (by omega), if_neg (by omega), if_pos (by omega)]; rfl
theorem shr_63 {i : Nat} (h : i < 8) : g_sh (63 + i) = .inr (0, 3, none) := by
  unfold g_sh g_sh1; rw [if_pos (by omega), if_neg (by omega), if_neg (by omega), if_neg (by omega), if_neg (by omega), if_neg (by omega), if_pos (by omega)]; rfl
theorem shr_77 {i : Nat} (h : i < 60) : g_sh (77 + i) = .inr (0, 3, none) := by
  unfold g_sh g_sh1; rw [if_pos (by omega), if_neg (by omega), if_neg (by omega), if_neg (by omega), if_neg (by omega), if_neg (by omega), if_neg (by omega), if_neg (by omega), if_pos (by omega)]; rfl
theorem shr_159 {i : Nat} (h : i < 40) : g_sh (159 + i) = .inr (0, 4, none) := by
  unfold g_sh g_sh2; rw [if_neg (by omega), if_pos (by omega), if_neg (by omega), if_pos (by omega)]; rfl
theorem shr_200 {i : Nat} (h : i < 10) : g_sh (200 + 41 * i) = .inr (2, 40, some (201 + 41 * i)) := by
  unfold g_sh g_sh2; rw [if_neg (by omega), if_pos (by omega), if_neg (by omega), if_neg (by omega), if_neg (by omega), if_pos (by omega), if_pos (by omega)]
  congr 3
  congr 1
  omega
theorem shr_201 {i j : Nat} (h : i < 10) (hj : j < 40) : g_sh (201 + 41 * i + j) = .inr (0, 4, none) := by
  unfold g_sh g_sh2; rw [if_neg (by omega), if_pos (by omega), if_neg (by omega), if_neg (by omega), if_neg (by omega), if_pos (by omega), if_neg (by omega)]; rfl
theorem shr_614 {i : Nat} (h : i < 8) : g_sh (614 + i) = .inr (0, 3, none) := by
  unfold g_sh g_sh2; rw [if_neg (by omega), if_pos (by omega), if_neg (by omega), if_neg (by omega), if_neg (by omega), if_neg (by omega), if_neg (by omega), if_pos (by omega)]; rfl
theorem shr_626 {i : Nat} (h : i < 60) : g_sh (626 + i) = .inr (0, 3, none) := by
  unfold g_sh g_sh2; rw [if_neg (by omega), if_pos (by omega), if_neg (by omega), if_neg (by omega), if_neg (by omega), if_neg (by omega), if_neg (by omega), if_neg (by omega), if_neg (by omega), if_pos (by omega)]; rfl
theorem shr_687 {i : Nat} (h : i < 40) : g_sh (687 + i) = .inr (0, 3, none) := by
  unfold g_sh g_sh2; rw [if_neg (by omega), if_pos (by omega), if_neg (by omega), if_neg (by omega), if_neg (by omega), if_neg (by omega), if_neg (by omega), if_neg (by omega), if_neg (by omega), if_neg (by omega), if_neg (by omega), if_pos (by omega)]; rfl
theorem ldw_3 {σ : sg} {i k : Nat} (h : i < 40) (hk : k < 4) : ld σ (3 + i) (nI k) = some (σ (3 + i) k) := ld_of (shr_3 h) hk (by decide)
theorem stw_3 {σ : sg} {i k : Nat} {v : Int32} (h : i < 40) (hk : k < 4) : st σ (3 + i) (nI k) v = some (up σ (3 + i) k v) := st_of (shr_3 h) hk (by decide)
theorem ldw_47 {σ : sg} {i k : Nat} (h : i < 10) (hk : k < 4) : ld σ (47 + i) (nI k) = some (σ (47 + i) k) := ld_of (shr_47 h) hk (by decide)
theorem stw_47 {σ : sg} {i k : Nat} {v : Int32} (h : i < 10) (hk : k < 4) : st σ (47 + i) (nI k) v = some (up σ (47 + i) k v) := st_of (shr_47 h) hk (by decide)
theorem ldw_63 {σ : sg} {i k : Nat} (h : i < 8) (hk : k < 3) : ld σ (63 + i) (nI k) = some (σ (63 + i) k) := ld_of (shr_63 h) hk (by decide)
theorem stw_63 {σ : sg} {i k : Nat} {v : Int32} (h : i < 8) (hk : k < 3) : st σ (63 + i) (nI k) v = some (up σ (63 + i) k v) := st_of (shr_63 h) hk (by decide)
theorem ldw_77 {σ : sg} {i k : Nat} (h : i < 60) (hk : k < 3) : ld σ (77 + i) (nI k) = some (σ (77 + i) k) := ld_of (shr_77 h) hk (by decide)
theorem stw_77 {σ : sg} {i k : Nat} {v : Int32} (h : i < 60) (hk : k < 3) : st σ (77 + i) (nI k) v = some (up σ (77 + i) k v) := st_of (shr_77 h) hk (by decide)
theorem ldw_159 {σ : sg} {i k : Nat} (h : i < 40) (hk : k < 4) : ld σ (159 + i) (nI k) = some (σ (159 + i) k) := ld_of (shr_159 h) hk (by decide)
theorem stw_159 {σ : sg} {i k : Nat} {v : Int32} (h : i < 40) (hk : k < 4) : st σ (159 + i) (nI k) v = some (up σ (159 + i) k v) := st_of (shr_159 h) hk (by decide)
theorem ldw_614 {σ : sg} {i k : Nat} (h : i < 8) (hk : k < 3) : ld σ (614 + i) (nI k) = some (σ (614 + i) k) := ld_of (shr_614 h) hk (by decide)
theorem stw_614 {σ : sg} {i k : Nat} {v : Int32} (h : i < 8) (hk : k < 3) : st σ (614 + i) (nI k) v = some (up σ (614 + i) k v) := st_of (shr_614 h) hk (by decide)
theorem ldw_626 {σ : sg} {i k : Nat} (h : i < 60) (hk : k < 3) : ld σ (626 + i) (nI k) = some (σ (626 + i) k) := ld_of (shr_626 h) hk (by decide)
theorem stw_626 {σ : sg} {i k : Nat} {v : Int32} (h : i < 60) (hk : k < 3) : st σ (626 + i) (nI k) v = some (up σ (626 + i) k v) := st_of (shr_626 h) hk (by decide)
theorem ldw_687 {σ : sg} {i k : Nat} (h : i < 40) (hk : k < 3) : ld σ (687 + i) (nI k) = some (σ (687 + i) k) := ld_of (shr_687 h) hk (by decide)
theorem stw_687 {σ : sg} {i k : Nat} {v : Int32} (h : i < 40) (hk : k < 3) : st σ (687 + i) (nI k) v = some (up σ (687 + i) k v) := st_of (shr_687 h) hk (by decide)
theorem ldw_201 {σ : sg} {i j k : Nat} (h : i < 10) (hj : j < 40) (hk : k < 4) : ld σ (201 + 41 * i + j) (nI k) = some (σ (201 + 41 * i + j) k) := ld_of (shr_201 h hj) hk (by decide)
theorem stw_201 {σ : sg} {i j k : Nat} {v : Int32} (h : i < 10) (hj : j < 40) (hk : k < 4) : st σ (201 + 41 * i + j) (nI k) v = some (up σ (201 + 41 * i + j) k v) := st_of (shr_201 h hj) hk (by decide)
theorem ldr_2 {k : Nat} (h : k < 40) : ldr 2 (nI k) = some (3 + k) := ldr_of rfl h (by decide)
theorem ldr_46 {k : Nat} (h : k < 10) : ldr 46 (nI k) = some (47 + k) := ldr_of rfl h (by decide)
theorem ldr_62 {k : Nat} (h : k < 8) : ldr 62 (nI k) = some (63 + k) := ldr_of rfl h (by decide)
theorem ldr_76 {k : Nat} (h : k < 60) : ldr 76 (nI k) = some (77 + k) := ldr_of rfl h (by decide)
theorem ldr_158 {k : Nat} (h : k < 40) : ldr 158 (nI k) = some (159 + k) := ldr_of rfl h (by decide)
theorem ldr_613 {k : Nat} (h : k < 8) : ldr 613 (nI k) = some (614 + k) := ldr_of rfl h (by decide)
theorem ldr_625 {k : Nat} (h : k < 60) : ldr 625 (nI k) = some (626 + k) := ldr_of rfl h (by decide)
theorem ldr_686 {k : Nat} (h : k < 40) : ldr 686 (nI k) = some (687 + k) := ldr_of rfl h (by decide)
theorem ldr_199 {k : Nat} (h : k < 10) : ldr 199 (nI k) = some (200 + 41 * k) := ldr_of3 rfl h (by decide)
theorem ldr_200 {i k : Nat} (h : i < 10) (hk : k < 40) : ldr (200 + 41 * i) (nI k) = some (201 + 41 * i + k) := ldr_of (shr_200 h) hk (by decide)
theorem ld_44 {σ : sg} {k : Nat} (h : k < 10) : ld σ 44 (nI k) = some (σ 44 k) := ld_of rfl h (by decide)
theorem st_44 {σ : sg} {k : Nat} {v : Int32} (h : k < 10) : st σ 44 (nI k) v = some (up σ 44 k v) := st_of rfl h (by decide)
theorem ld_45 {σ : sg} {k : Nat} (h : k < 10) : ld σ 45 (nI k) = some (σ 45 k) := ld_of rfl h (by decide)
theorem st_45 {σ : sg} {k : Nat} {v : Int32} (h : k < 10) : st σ 45 (nI k) v = some (up σ 45 k v) := st_of rfl h (by decide)
theorem ld_58 {σ : sg} {k : Nat} (h : k < 41) : ld σ 58 (nI k) = some (σ 58 k) := ld_of rfl h (by decide)
theorem st_58 {σ : sg} {k : Nat} {v : Int32} (h : k < 41) : st σ 58 (nI k) v = some (up σ 58 k v) := st_of rfl h (by decide)
theorem ld_59 {σ : sg} {k : Nat} (h : k < 40) : ld σ 59 (nI k) = some (σ 59 k) := ld_of rfl h (by decide)
theorem st_59 {σ : sg} {k : Nat} {v : Int32} (h : k < 40) : st σ 59 (nI k) v = some (up σ 59 k v) := st_of rfl h (by decide)
theorem ld_71 {σ : sg} {k : Nat} (h : k < 8) : ld σ 71 (nI k) = some (σ 71 k) := ld_of rfl h (by decide)
theorem st_71 {σ : sg} {k : Nat} {v : Int32} (h : k < 8) : st σ 71 (nI k) v = some (up σ 71 k v) := st_of rfl h (by decide)
theorem ld_73 {σ : sg} {k : Nat} (h : k < 40) : ld σ 73 (nI k) = some (σ 73 k) := ld_of rfl h (by decide)
theorem st_73 {σ : sg} {k : Nat} {v : Int32} (h : k < 40) : st σ 73 (nI k) v = some (up σ 73 k v) := st_of rfl h (by decide)
theorem ld_74 {σ : sg} {k : Nat} (h : k < 3) : ld σ 74 (nI k) = some (σ 74 k) := ld_of rfl h (by decide)
theorem st_74 {σ : sg} {k : Nat} {v : Int32} (h : k < 3) : st σ 74 (nI k) v = some (up σ 74 k v) := st_of rfl h (by decide)
theorem ld_137 {σ : sg} {k : Nat} (h : k < 60) : ld σ 137 (nI k) = some (σ 137 k) := ld_of rfl h (by decide)
theorem st_137 {σ : sg} {k : Nat} {v : Int32} (h : k < 60) : st σ 137 (nI k) v = some (up σ 137 k v) := st_of rfl h (by decide)
theorem ld_138 {σ : sg} {k : Nat} (h : k < 60) : ld σ 138 (nI k) = some (σ 138 k) := ld_of rfl h (by decide)
theorem st_138 {σ : sg} {k : Nat} {v : Int32} (h : k < 60) : st σ 138 (nI k) v = some (up σ 138 k v) := st_of rfl h (by decide)
theorem ld_139 {σ : sg} {k : Nat} (h : k < 40) : ld σ 139 (nI k) = some (σ 139 k) := ld_of rfl h (by decide)
theorem st_139 {σ : sg} {k : Nat} {v : Int32} (h : k < 40) : st σ 139 (nI k) v = some (up σ 139 k v) := st_of rfl h (by decide)
theorem ld_140 {σ : sg} {k : Nat} (h : k < 40) : ld σ 140 (nI k) = some (σ 140 k) := ld_of rfl h (by decide)
theorem st_140 {σ : sg} {k : Nat} {v : Int32} (h : k < 40) : st σ 140 (nI k) v = some (up σ 140 k v) := st_of rfl h (by decide)
theorem ld_141 {σ : sg} {k : Nat} (h : k < 40) : ld σ 141 (nI k) = some (σ 141 k) := ld_of rfl h (by decide)
theorem st_141 {σ : sg} {k : Nat} {v : Int32} (h : k < 40) : st σ 141 (nI k) v = some (up σ 141 k v) := st_of rfl h (by decide)
theorem ld_142 {σ : sg} {k : Nat} (h : k < 40) : ld σ 142 (nI k) = some (σ 142 k) := ld_of rfl h (by decide)
theorem st_142 {σ : sg} {k : Nat} {v : Int32} (h : k < 40) : st σ 142 (nI k) v = some (up σ 142 k v) := st_of rfl h (by decide)
theorem ld_143 {σ : sg} {k : Nat} (h : k < 40) : ld σ 143 (nI k) = some (σ 143 k) := ld_of rfl h (by decide)
theorem st_143 {σ : sg} {k : Nat} {v : Int32} (h : k < 40) : st σ 143 (nI k) v = some (up σ 143 k v) := st_of rfl h (by decide)
theorem ld_144 {σ : sg} {k : Nat} (h : k < 100) : ld σ 144 (nI k) = some (σ 144 k) := ld_of rfl h (by decide)
theorem st_144 {σ : sg} {k : Nat} {v : Int32} (h : k < 100) : st σ 144 (nI k) v = some (up σ 144 k v) := st_of rfl h (by decide)
theorem ld_146 {σ : sg} {k : Nat} (h : k < 8) : ld σ 146 (nI k) = some (σ 146 k) := ld_of rfl h (by decide)
theorem st_146 {σ : sg} {k : Nat} {v : Int32} (h : k < 8) : st σ 146 (nI k) v = some (up σ 146 k v) := st_of rfl h (by decide)
theorem ld_147 {σ : sg} {k : Nat} (h : k < 16) : ld σ 147 (nI k) = some (σ 147 k) := ld_of rfl h (by decide)
theorem st_147 {σ : sg} {k : Nat} {v : Int32} (h : k < 16) : st σ 147 (nI k) v = some (up σ 147 k v) := st_of rfl h (by decide)
theorem ld_155 {σ : sg} {k : Nat} (h : k < 40) : ld σ 155 (nI k) = some (σ 155 k) := ld_of rfl h (by decide)
theorem st_155 {σ : sg} {k : Nat} {v : Int32} (h : k < 40) : st σ 155 (nI k) v = some (up σ 155 k v) := st_of rfl h (by decide)
theorem ld_156 {σ : sg} {k : Nat} (h : k < 40) : ld σ 156 (nI k) = some (σ 156 k) := ld_of rfl h (by decide)
theorem st_156 {σ : sg} {k : Nat} {v : Int32} (h : k < 40) : st σ 156 (nI k) v = some (up σ 156 k v) := st_of rfl h (by decide)
theorem ld_610 {σ : sg} {k : Nat} (h : k < 10) : ld σ 610 (nI k) = some (σ 610 k) := ld_of rfl h (by decide)
theorem st_610 {σ : sg} {k : Nat} {v : Int32} (h : k < 10) : st σ 610 (nI k) v = some (up σ 610 k v) := st_of rfl h (by decide)
theorem ld_611 {σ : sg} {k : Nat} (h : k < 40) : ld σ 611 (nI k) = some (σ 611 k) := ld_of rfl h (by decide)
theorem st_611 {σ : sg} {k : Nat} {v : Int32} (h : k < 40) : st σ 611 (nI k) v = some (up σ 611 k v) := st_of rfl h (by decide)
theorem ld_612 {σ : sg} {k : Nat} (h : k < 41) : ld σ 612 (nI k) = some (σ 612 k) := ld_of rfl h (by decide)
theorem st_612 {σ : sg} {k : Nat} {v : Int32} (h : k < 41) : st σ 612 (nI k) v = some (up σ 612 k v) := st_of rfl h (by decide)
theorem ld_622 {σ : sg} {k : Nat} (h : k < 8) : ld σ 622 (nI k) = some (σ 622 k) := ld_of rfl h (by decide)
theorem st_622 {σ : sg} {k : Nat} {v : Int32} (h : k < 8) : st σ 622 (nI k) v = some (up σ 622 k v) := st_of rfl h (by decide)
theorem ld_623 {σ : sg} {k : Nat} (h : k < 40) : ld σ 623 (nI k) = some (σ 623 k) := ld_of rfl h (by decide)
theorem st_623 {σ : sg} {k : Nat} {v : Int32} (h : k < 40) : st σ 623 (nI k) v = some (up σ 623 k v) := st_of rfl h (by decide)
theorem ld_624 {σ : sg} {k : Nat} (h : k < 3) : ld σ 624 (nI k) = some (σ 624 k) := ld_of rfl h (by decide)
theorem st_624 {σ : sg} {k : Nat} {v : Int32} (h : k < 3) : st σ 624 (nI k) v = some (up σ 624 k v) := st_of rfl h (by decide)
theorem ld_727 {σ : sg} {k : Nat} (h : k < 60) : ld σ 727 (nI k) = some (σ 727 k) := ld_of rfl h (by decide)
theorem st_727 {σ : sg} {k : Nat} {v : Int32} (h : k < 60) : st σ 727 (nI k) v = some (up σ 727 k v) := st_of rfl h (by decide)
theorem ld_728 {σ : sg} {k : Nat} (h : k < 60) : ld σ 728 (nI k) = some (σ 728 k) := ld_of rfl h (by decide)
theorem st_728 {σ : sg} {k : Nat} {v : Int32} (h : k < 60) : st σ 728 (nI k) v = some (up σ 728 k v) := st_of rfl h (by decide)
theorem ld_729 {σ : sg} {k : Nat} (h : k < 280) : ld σ 729 (nI k) = some (σ 729 k) := ld_of rfl h (by decide)
theorem st_729 {σ : sg} {k : Nat} {v : Int32} (h : k < 280) : st σ 729 (nI k) v = some (up σ 729 k v) := st_of rfl h (by decide)
theorem ld_730 {σ : sg} {k : Nat} (h : k < 40) : ld σ 730 (nI k) = some (σ 730 k) := ld_of rfl h (by decide)
theorem st_730 {σ : sg} {k : Nat} {v : Int32} (h : k < 40) : st σ 730 (nI k) v = some (up σ 730 k v) := st_of rfl h (by decide)
theorem ld_731 {σ : sg} {k : Nat} (h : k < 24) : ld σ 731 (nI k) = some (σ 731 k) := ld_of rfl h (by decide)
theorem st_731 {σ : sg} {k : Nat} {v : Int32} (h : k < 24) : st σ 731 (nI k) v = some (up σ 731 k v) := st_of rfl h (by decide)
theorem ld_732 {σ : sg} {k : Nat} (h : k < 24) : ld σ 732 (nI k) = some (σ 732 k) := ld_of rfl h (by decide)
theorem st_732 {σ : sg} {k : Nat} {v : Int32} (h : k < 24) : st σ 732 (nI k) v = some (up σ 732 k v) := st_of rfl h (by decide)
theorem ld_733 {σ : sg} {k : Nat} (h : k < 24) : ld σ 733 (nI k) = some (σ 733 k) := ld_of rfl h (by decide)
theorem st_733 {σ : sg} {k : Nat} {v : Int32} (h : k < 24) : st σ 733 (nI k) v = some (up σ 733 k v) := st_of rfl h (by decide)
theorem ld_734 {σ : sg} {k : Nat} (h : k < 40) : ld σ 734 (nI k) = some (σ 734 k) := ld_of rfl h (by decide)
theorem st_734 {σ : sg} {k : Nat} {v : Int32} (h : k < 40) : st σ 734 (nI k) v = some (up σ 734 k v) := st_of rfl h (by decide)
theorem ld_735 {σ : sg} {k : Nat} (h : k < 40) : ld σ 735 (nI k) = some (σ 735 k) := ld_of rfl h (by decide)
theorem st_735 {σ : sg} {k : Nat} {v : Int32} (h : k < 40) : st σ 735 (nI k) v = some (up σ 735 k v) := st_of rfl h (by decide)
theorem ld_736 {σ : sg} {k : Nat} (h : k < 40) : ld σ 736 (nI k) = some (σ 736 k) := ld_of rfl h (by decide)
theorem st_736 {σ : sg} {k : Nat} {v : Int32} (h : k < 40) : st σ 736 (nI k) v = some (up σ 736 k v) := st_of rfl h (by decide)
theorem ldz_60 {σ : sg} {k : Nat} (h : k < 40) : ldz σ 60 (nI k) = some (σ 60 k) := ldz_of rfl h (by decide)
theorem stz_60 {σ : sg} {k : Nat} {v : Int32} (h : k < 40) : stz σ 60 (nI k) v = some (up σ 60 k (vp_nar .boolean v)) := stz_of rfl h (by decide)
theorem nar_0 : vp_nar .boolean (nI 0) = nI 0 := rfl
theorem nar_1 : vp_nar .boolean (nI 1) = nI 1 := rfl
theorem up_r {σ : sg} {r k : Nat} {v : Int32} {q : Nat} (h : q ≠ r) : up σ r k v q = σ q := up_row h
theorem up_k {σ : sg} {r k : Nat} {v : Int32} {q : Nat} (h : q ≠ k) : up σ r k v r q = σ r q := up_ne σ v (fun e => h e.2)
theorem l_0 : (0 : Int32) = nI 0 := Eq.trans rfl rfl
theorem l_1 : (1 : Int32) = nI 1 := Eq.trans rfl rfl
theorem l_2 : (2 : Int32) = nI 2 := Eq.trans rfl rfl
theorem l_3 : (3 : Int32) = nI 3 := Eq.trans rfl rfl
theorem l_4 : (4 : Int32) = nI 4 := Eq.trans rfl rfl
theorem l_5 : (5 : Int32) = nI 5 := Eq.trans rfl rfl
theorem l_6 : (6 : Int32) = nI 6 := Eq.trans rfl rfl
theorem l_7 : (7 : Int32) = nI 7 := Eq.trans rfl rfl
theorem l_8 : (8 : Int32) = nI 8 := Eq.trans rfl rfl
theorem l_9 : (9 : Int32) = nI 9 := Eq.trans rfl rfl
theorem l_10 : (10 : Int32) = nI 10 := Eq.trans rfl rfl
theorem l_11 : (11 : Int32) = nI 11 := Eq.trans rfl rfl
theorem l_12 : (12 : Int32) = nI 12 := Eq.trans rfl rfl
theorem l_13 : (13 : Int32) = nI 13 := Eq.trans rfl rfl
theorem l_14 : (14 : Int32) = nI 14 := Eq.trans rfl rfl
theorem l_15 : (15 : Int32) = nI 15 := Eq.trans rfl rfl
theorem l_16 : (16 : Int32) = nI 16 := Eq.trans rfl rfl
theorem l_17 : (17 : Int32) = nI 17 := Eq.trans rfl rfl
theorem l_18 : (18 : Int32) = nI 18 := Eq.trans rfl rfl
theorem l_19 : (19 : Int32) = nI 19 := Eq.trans rfl rfl
theorem l_20 : (20 : Int32) = nI 20 := Eq.trans rfl rfl
theorem l_21 : (21 : Int32) = nI 21 := Eq.trans rfl rfl
theorem l_22 : (22 : Int32) = nI 22 := Eq.trans rfl rfl
theorem l_23 : (23 : Int32) = nI 23 := Eq.trans rfl rfl
theorem l_24 : (24 : Int32) = nI 24 := Eq.trans rfl rfl
theorem l_25 : (25 : Int32) = nI 25 := Eq.trans rfl rfl
theorem l_26 : (26 : Int32) = nI 26 := Eq.trans rfl rfl
theorem l_27 : (27 : Int32) = nI 27 := Eq.trans rfl rfl
theorem l_28 : (28 : Int32) = nI 28 := Eq.trans rfl rfl
theorem l_29 : (29 : Int32) = nI 29 := Eq.trans rfl rfl
theorem l_30 : (30 : Int32) = nI 30 := Eq.trans rfl rfl
theorem l_31 : (31 : Int32) = nI 31 := Eq.trans rfl rfl
theorem l_32 : (32 : Int32) = nI 32 := Eq.trans rfl rfl
theorem l_33 : (33 : Int32) = nI 33 := Eq.trans rfl rfl
theorem l_34 : (34 : Int32) = nI 34 := Eq.trans rfl rfl
theorem l_35 : (35 : Int32) = nI 35 := Eq.trans rfl rfl
theorem l_36 : (36 : Int32) = nI 36 := Eq.trans rfl rfl
theorem l_37 : (37 : Int32) = nI 37 := Eq.trans rfl rfl
theorem l_38 : (38 : Int32) = nI 38 := Eq.trans rfl rfl
theorem l_39 : (39 : Int32) = nI 39 := Eq.trans rfl rfl
theorem l_40 : (40 : Int32) = nI 40 := Eq.trans rfl rfl
theorem l_41 : (41 : Int32) = nI 41 := Eq.trans rfl rfl
theorem l_100 : (100 : Int32) = nI 100 := Eq.trans rfl rfl
theorem l_160 : (160 : Int32) = nI 160 := Eq.trans rfl rfl
theorem l_300 : (300 : Int32) = nI 300 := Eq.trans rfl rfl
theorem l_999 : (999 : Int32) = nI 999 := Eq.trans rfl rfl
theorem l_1000 : (1000 : Int32) = nI 1000 := Eq.trans rfl rfl
theorem l_2000 : (2000 : Int32) = nI 2000 := Eq.trans rfl rfl
/-- a negative number -/
def mI (n : Nat) : Int32 := -nI n
theorem neg_nI (n : Nat) : -nI n = mI n := Eq.trans rfl rfl
theorem mI_toInt {n : Nat} (h : n < 2147483648) : (mI n).toInt = -(n : Int) := by
  unfold mI
  rw [Int32.toInt_neg, nI_toInt h, Int.bmod_eq_of_le (by omega) (by omega)]
theorem mI_lt {a b : Nat} (ha : a < 2147483648) (h0 : 0 < a) (hb : b < 2147483648) : mI a < nI b := by
  rw [Int32.lt_iff_toInt_lt, nI_toInt hb, mI_toInt ha]
  omega
theorem mI_nle {a b : Nat} (ha : a < 2147483648) (h0 : 0 < a) (hb : b < 2147483648) : ¬ nI b ≤ mI a := by
  rw [Int32.le_iff_toInt_le, nI_toInt hb, mI_toInt ha]
  omega
theorem mI_ne {a b : Nat} (ha : a < 2147483648) (h0 : 0 < a) (hb : b < 2147483648) : ¬ nI b = mI a := by
  rw [← Int32.toInt_inj, nI_toInt hb, mI_toInt ha]
  omega
/-! loops -/
theorem loop_run {α β : Type} {f : α → Option (α ⊕ β)} {s : Nat → α} {n : Nat} {b : β} (hs : ∀ k, k < n → f (s k) = some (.inl (s (k + 1)))) (he : f (s n) = some (.inr b)) {fu : Nat} (hf : n < fu) : g_loop f fu (s 0) = some b := by
  have key : ∀ (m k fu : Nat), k + m = n → m < fu → g_loop f fu (s k) = some b := by
    intro m
    induction m with
    | zero =>
      intro k fu hk hfu
      obtain ⟨fu, rfl⟩ : ∃ x, fu = x + 1 := ⟨fu - 1, by omega⟩
      unfold g_loop
      rw [show k = n by omega, he]
    | succ m ih =>
      intro k fu hk hfu
      obtain ⟨fu, rfl⟩ : ∃ x, fu = x + 1 := ⟨fu - 1, by omega⟩
      unfold g_loop
      rw [hs k (by omega)]
      exact ih (k + 1) fu (by omega) (by omega)
  exact key n 0 fu (by omega) hf
theorem loop_inv {α β : Type} {f : α → Option (α ⊕ β)} (n : Nat) (I : Nat → α → Prop) (Q : β → Prop) (h : ∀ (k : Nat) (a : α), k ≤ n → I k a → (∃ a', f a = some (.inl a') ∧ k < n ∧ I (k + 1) a') ∨ (∃ b, f a = some (.inr b) ∧ Q b)) {fu : Nat} (hf : n < fu) {a : α} (h0 : I 0 a) : ∃ b, g_loop f fu a = some b ∧ Q b := by
  have key : ∀ (m k fu : Nat) (a : α), k + m = n → m < fu → I k a → ∃ b, g_loop f fu a = some b ∧ Q b := by
    intro m
    induction m with
    | zero =>
      intro k fu a hk hfu hI
      obtain ⟨fu, rfl⟩ : ∃ x, fu = x + 1 := ⟨fu - 1, by omega⟩
      unfold g_loop
      rcases h k a (by omega) hI with ⟨a', h1, h2, -⟩ | ⟨b, h1, h2⟩
      · omega
      · rw [h1]; exact ⟨b, rfl, h2⟩
    | succ m ih =>
      intro k fu a hk hfu hI
      obtain ⟨fu, rfl⟩ : ∃ x, fu = x + 1 := ⟨fu - 1, by omega⟩
      unfold g_loop
      rcases h k a (by omega) hI with ⟨a', h1, h2, h3⟩ | ⟨b, h1, h2⟩
      · rw [h1]; exact ih (k + 1) fu a' (by omega) (by omega) h3
      · rw [h1]; exact ⟨b, rfl, h2⟩
  exact key n 0 fu a (by omega) hf h0
theorem loop_c2 {A B β : Type} {F : A → B → Option ((A × B) ⊕ β)} (n : Nat) (I : Nat → A → B → Prop) (Q : β → Prop) (h : ∀ (k : Nat) (a : A) (b : B), k ≤ n → I k a b → (∃ a' b', F a b = some (.inl (a', b')) ∧ k < n ∧ I (k + 1) a' b') ∨ (∃ c, F a b = some (.inr c) ∧ Q c)) {fu : Nat} (hf : n < fu) {a : A} {b : B} (h0 : I 0 a b) : ∃ c, g_loop (fun p => F p.1 p.2) fu (a, b) = some c ∧ Q c :=
  loop_inv n (fun k p => I k p.1 p.2) Q (fun k p hk hI => (h k p.1 p.2 hk hI).elim (fun ⟨a', b', q1, q2, q3⟩ => Or.inl ⟨(a', b'), q1, q2, q3⟩) Or.inr) hf h0
theorem loop_c3 {A B C β : Type} {F : A → B → C → Option ((A × B × C) ⊕ β)} (n : Nat) (I : Nat → A → B → C → Prop) (Q : β → Prop) (h : ∀ (k : Nat) (a : A) (b : B) (c : C), k ≤ n → I k a b c → (∃ a' b' c', F a b c = some (.inl (a', b', c')) ∧ k < n ∧ I (k + 1) a' b' c') ∨ (∃ z, F a b c = some (.inr z) ∧ Q z)) {fu : Nat} (hf : n < fu) {a : A} {b : B} {c : C} (h0 : I 0 a b c) : ∃ z, g_loop (fun p => F p.1 p.2.1 p.2.2) fu (a, b, c) = some z ∧ Q z :=
  loop_inv n (fun k p => I k p.1 p.2.1 p.2.2) Q (fun k p hk hI => (h k p.1 p.2.1 p.2.2 hk hI).elim (fun ⟨a', b', c', q1, q2, q3⟩ => Or.inl ⟨(a', b', c'), q1, q2, q3⟩) Or.inr) hf h0
theorem loop_c4 {A B C D β : Type} {F : A → B → C → D → Option ((A × B × C × D) ⊕ β)} (n : Nat) (I : Nat → A → B → C → D → Prop) (Q : β → Prop) (h : ∀ (k : Nat) (a : A) (b : B) (c : C) (d : D), k ≤ n → I k a b c d → (∃ a' b' c' d', F a b c d = some (.inl (a', b', c', d')) ∧ k < n ∧ I (k + 1) a' b' c' d') ∨ (∃ z, F a b c d = some (.inr z) ∧ Q z)) {fu : Nat} (hf : n < fu) {a : A} {b : B} {c : C} {d : D} (h0 : I 0 a b c d) : ∃ z, g_loop (fun p => F p.1 p.2.1 p.2.2.1 p.2.2.2) fu (a, b, c, d) = some z ∧ Q z :=
  loop_inv n (fun k p => I k p.1 p.2.1 p.2.2.1 p.2.2.2) Q (fun k p hk hI => (h k p.1 p.2.1 p.2.2.1 p.2.2.2 hk hI).elim (fun ⟨a', b', c', d', q1, q2, q3⟩ => Or.inl ⟨(a', b', c', d'), q1, q2, q3⟩) Or.inr) hf h0
/-- a counter from 0, and a rest -/
theorem loop_k2 {B β : Type} {F : Int32 → B → Option ((Int32 × B) ⊕ β)} (n : Nat) (I : Nat → B → Prop) (Q : β → Prop) (h : ∀ (k : Nat) (b : B), k ≤ n → I k b → (∃ b', F (nI k) b = some (.inl (nI (k + 1), b')) ∧ k < n ∧ I (k + 1) b') ∨ (∃ c, F (nI k) b = some (.inr c) ∧ Q c)) {fu : Nat} (hf : n < fu) {b : B} (h0 : I 0 b) : ∃ c, g_loop (fun p => F p.1 p.2) fu (nI 0, b) = some c ∧ Q c :=
  loop_c2 n (fun k a b => a = nI k ∧ I k b) Q (fun k a b hk hI => by
    obtain ⟨rfl, hI⟩ := hI
    rcases h k b hk hI with ⟨b', q1, q2, q3⟩ | q
    · exact Or.inl ⟨_, b', q1, q2, rfl, q3⟩
    · exact Or.inr q) hf ⟨rfl, h0⟩
theorem loop_k1 {β : Type} {F : Int32 → Option (Int32 ⊕ β)} (n : Nat) (I : Nat → Prop) (Q : β → Prop) (h : ∀ (k : Nat), k ≤ n → I k → (F (nI k) = some (.inl (nI (k + 1))) ∧ k < n ∧ I (k + 1)) ∨ (∃ c, F (nI k) = some (.inr c) ∧ Q c)) {fu : Nat} (hf : n < fu) (h0 : I 0) : ∃ c, g_loop (fun p => F p) fu (nI 0) = some c ∧ Q c :=
  loop_inv n (fun k a => a = nI k ∧ I k) Q (fun k a hk hI => by
    obtain ⟨rfl, hI⟩ := hI
    rcases h k hk hI with ⟨q1, q2, q3⟩ | q
    · exact Or.inl ⟨_, q1, q2, rfl, q3⟩
    · exact Or.inr q) hf ⟨rfl, h0⟩
theorem gN_gt {n : Nat} (h : n < 100000) : n < gN := h
