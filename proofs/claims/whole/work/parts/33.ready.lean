/-! WHETHER THE NEXT INSTRUCTION MAY GO INTO A GROUP -/
/-- the instruction i lets nx into the group grp -/
def okI (P : gP) (nx grp : Nat) (g : Nat → Nat) (i : Nat) : Prop := ∀ d, gd P i nx = some d → g i + d ≤ grp
def rdy (P : gP) (b nx grp : Nat) (g : Nat → Nat) : Prop := ∀ i, b ≤ i → i < nx → okI P nx grp g i
theorem okI_n {P : gP} {nx grp : Nat} {g : Nat → Nat} {i : Nat} (h : gd P i nx = none) : okI P nx grp g i := fun d hd => by rw [h] at hd; cases hd
theorem okI_s {P : gP} {nx grp : Nat} {g : Nat → Nat} {i d : Nat} (h : gd P i nx = some d) : okI P nx grp g i ↔ g i + d ≤ grp := ⟨fun q => q d h, fun q e he => by rw [h] at he; cases he; exact q⟩
theorem dec_nI {i : Nat} : nI (i + 1) - nI 1 = nI i := by rw [nI_sub (by omega)]; rfl
theorem add_m1 {x : Int32} : x + (-1 : Int32) = x - nI 1 := (Int32.sub_eq_add_neg x (nI 1)).symm
section
variable {σ : sg} {P : gP} {b nx grp : Nat} {g : Nat → Nat}
theorem x2_ready (hI : rI σ P) (hV : pVs P) (h4 : σ 72 4 = nI b) (h6 : σ 72 6 = nI nx) (h7 : σ 72 7 = nI grp) (hb : b ≤ nx) (hnx : nx < 40) (hgrp : grp < 1000) (hg : ∀ i, b ≤ i → i < nx → σ 73 i = nI (g i)) (hmo : ∀ i k, b ≤ i → i ≤ k → k < nx → g i ≤ g k) (hle : ∀ i, b ≤ i → i < nx → g i ≤ grp) : f_X2_isReady σ = some (tf (rdy P b nx grp g)) := by
  unfold f_X2_isReady L_X2_isReady_7
  refine Exists.elim (loop_inv (f := fun a => B_X2_isReady_7 σ a) (nx - b) (fun k a => a = nI (nx - k) - nI 1 ∧ ∀ i, nx - k ≤ i → i < nx → okI P nx grp g i) (fun c => c = tf (rdy P b nx grp g)) (fun k a hk hIk => ?_) (fu := gN) (gN_gt (by omega)) (a := σ 72 6 - 1) ⟨by rw [h6]; rfl, fun i q1 q2 => absurd q1 (by omega)⟩) (fun c hc => by obtain ⟨h1, rfl⟩ := hc; exact h1)
  · obtain ⟨rfl, ho⟩ := hIk
    show (∃ a', B_X2_isReady_7 σ (nI (nx - k) - nI 1) = some (.inl a') ∧ _) ∨ _
    unfold B_X2_isReady_7 J_X2_isReady_66
    by_cases e : k = nx - b
    · refine Or.inr ⟨1, ?_, (tf_t (c := rdy P b nx grp g) (fun i q1 q2 => ho i (by omega) q2)).symm⟩
      rw [if_pos (show nI (nx - k) - nI 1 < σ 72 4 by rw [h4, ltT (by omega), subT (by omega)]; omega)]
    · obtain ⟨i, hi⟩ : ∃ i, nx - k = i + 1 := ⟨nx - k - 1, by omega⟩
      have hbi : b ≤ i := by omega
      have hin : i < nx := by omega
      have g3 := hle i hbi hin
      rw [hi, dec_nI, if_neg (show ¬ nI i < σ 72 4 by rw [h4, nI_lti (by omega) (by omega)]; omega), ld_73 (by omega), Option.bind_some, hg i hbi hin, h7, l_3, nI_add]
      by_cases e3 : g i + 3 ≤ grp
      · refine Or.inr ⟨1, ?_, (tf_t (c := rdy P b nx grp g) (fun m q1 q2 => ?_)).symm⟩
        · rw [if_pos (show nI (g i + 3) ≤ nI grp by rw [nI_lei (by omega) (by omega)]; exact e3)]
        · by_cases em : m ≤ i
          · intro d hd
            have z1 := hmo m i q1 em hin
            have z2 := gd_sm P m nx
            rw [hd] at z2
            have z3 : d ≤ 3 := z2 d rfl
            omega
          · exact ho m (by omega) q2
      · rw [if_neg (show ¬ nI (g i + 3) ≤ nI grp by rw [nI_lei (by omega) (by omega)]; exact e3), h6, x6_gap hI (by omega) hnx (hV i (by omega)) (hV nx hnx), Option.bind_some]
        have nxt : okI P nx grp g i → ∀ m, nx - (k + 1) ≤ m → m < nx → okI P nx grp g m := fun q m q1 q2 => by
          by_cases em : m = i
          · subst em; exact q
          · exact ho m (by omega) q2
        have hst : nI i + (-1 : Int32) = nI (nx - (k + 1)) - nI 1 := by
          rw [add_m1, show nx - (k + 1) = i by omega]
        cases hd : gd P i nx with
        | none =>
          refine Or.inl ⟨_, ?_, by omega, hst, nxt (okI_n hd)⟩
          rw [if_pos (show dv none = -4 from rfl)]
        | some d =>
          have z2 := gd_sm P i nx
          rw [hd] at z2
          have z3 : d ≤ 3 := z2 d rfl
          rw [if_neg (show ¬ dv (some d) = -4 from mI_ne (by decide) (by decide) (by omega)), Option.bind_some, show dv (some d) = nI d from rfl, nI_add]
          by_cases eg : g i + d ≤ grp
          · refine Or.inl ⟨_, ?_, by omega, hst, nxt ((okI_s hd).mpr eg)⟩
            rw [if_pos (show nI (g i + d) ≤ nI grp by rw [nI_lei (by omega) (by omega)]; exact eg)]
          · refine Or.inr ⟨0, ?_, (tf_f (c := rdy P b nx grp g) (fun q => eg ((okI_s hd).mp (q i hbi hin)))).symm⟩
            rw [if_neg (show ¬ nI (g i + d) ≤ nI grp by rw [nI_lei (by omega) (by omega)]; exact eg)]
theorem x9_ready (hM : rM σ P) (hV : pVs P) {t : Nat} (h11 : σ 611 nx = nI t) (ht : t < 41) (h12 : σ 612 t = nI b) (hb : b ≤ nx) (hnx : nx < 40) (hgrp : grp < 1000) (hg : ∀ i, b ≤ i → i < nx → σ 623 i = nI (g i)) (hle : ∀ i, b ≤ i → i < nx → g i ≤ grp) : f_X9_isReady σ (nI nx) (nI grp) = some (tf (rdy P b nx grp g)) := by
  unfold f_X9_isReady L_X9_isReady_15
  rw [ld_611 hnx, Option.bind_some, h11, ld_612 ht, Option.bind_some, h12]
  refine Exists.elim (loop_c2 (F := fun a c => B_X9_isReady_15 σ (nI nx) (nI grp) a c) (nx - b) (fun k a c => a = tf (∀ i, b ≤ i → i < b + k → okI P nx grp g i) ∧ c = nI (b + k)) (fun c => c = tf (rdy P b nx grp g)) (fun k a c hk hIk => ?_) (fu := gN) (gN_gt (by omega)) (a := 1) (b := nI b) ⟨(tf_t (fun i q1 q2 => absurd q1 (by omega))).symm, rfl⟩) (fun c hc => by obtain ⟨h1, rfl⟩ := hc; exact h1)
  · obtain ⟨rfl, rfl⟩ := hIk
    show (∃ a' c', B_X9_isReady_15 σ (nI nx) (nI grp) _ (nI (b + k)) = some (.inl (a', c')) ∧ _) ∨ _
    unfold B_X9_isReady_15 J_X9_isReady_50 J_X9_isReady_55
    by_cases e : k = nx - b
    · refine Or.inr ⟨tf (∀ i, b ≤ i → i < b + k → okI P nx grp g i), ?_, tf_c ⟨fun q i q1 q2 => q i q1 (by omega), fun q i q1 q2 => q i q1 (by omega)⟩⟩
      rw [if_pos (show nI nx ≤ nI (b + k) by rw [nI_lei (by omega) (by omega)]; omega), nz_tf]
    · have hin : b + k < nx := by omega
      have g3 := hle (b + k) (by omega) hin
      have nxt : ∀ c : Prop, (okI P nx grp g (b + k) ↔ c) → tf (∀ i, b ≤ i → i < b + k → okI P nx grp g i) &&& tf c = tf (∀ i, b ≤ i → i < b + (k + 1) → okI P nx grp g i) := fun c hc => by
        rw [tf_and]
        refine tf_c ⟨fun q i q1 q2 => ?_, fun q => ⟨fun i q1 q2 => q i q1 (by omega), hc.mp (q (b + k) (by omega) (by omega))⟩⟩
        by_cases em : i = b + k
        · subst em; exact hc.mpr q.2
        · exact q.1 i q1 (by omega)
      have hadd : nI (b + k) + (1 : Int32) = nI (b + (k + 1)) := by rw [l_1, nI_add]; rfl
      rw [if_neg (show ¬ nI nx ≤ nI (b + k) by rw [nI_lei (by omega) (by omega)]; omega), x9_dist hM (by omega) hnx (hV _ (by omega)) (hV nx hnx), Option.bind_some]
      cases hd : gd P (b + k) nx with
      | none =>
        refine Or.inl ⟨_, _, ?_, by omega, nxt True ⟨fun _ => trivial, fun _ => okI_n hd⟩, hadd⟩
        rw [if_pos (show dv none < 0 from mI_lt (by decide) (by decide) (by decide)), tf_true]
        rfl
      | some d =>
        have z2 := gd_sm P (b + k) nx
        rw [hd] at z2
        have z3 : d ≤ 3 := z2 d rfl
        rw [if_neg (show ¬ dv (some d) < 0 by rw [l_0, show dv (some d) = nI d from rfl, nI_lti (by omega) (by decide)]; omega), ld_623 (by omega), Option.bind_some, hg _ (by omega) hin, show dv (some d) = nI d from rfl, nI_add]
        by_cases eg : g (b + k) + d ≤ grp
        · refine Or.inl ⟨_, _, ?_, by omega, nxt True ⟨fun _ => trivial, fun _ => (okI_s hd).mpr eg⟩, hadd⟩
          rw [if_neg (show ¬ nI grp < nI (g (b + k) + d) by rw [nI_lti (by omega) (by omega)]; omega), tf_true]
          rfl
        · refine Or.inl ⟨_, _, ?_, by omega, nxt False ⟨fun q => eg ((okI_s hd).mp q), False.elim⟩, hadd⟩
          rw [if_pos (show nI grp < nI (g (b + k) + d) by rw [nI_lti (by omega) (by omega)]; omega), tf_false]
          rfl
end
