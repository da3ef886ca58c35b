/-! PACKING: the reference, and both -/
def pM (τ : sg) (s : PK) : Prop := buM τ s.1 s.2.2.1 s.2.2.2.1 s.2.2.2.2.1 ∧ plM τ s.2.1
def pkFrM (σ τ : sg) : Prop := (∀ r, r ≠ 157 → r ≠ 611 → r ≠ 612 → ¬ (623 ≤ r ∧ r ≤ 728) → τ r = σ r) ∧ ∀ k, k ≠ 7 → k ≠ 13 → k ≠ 14 → k ≠ 15 → k ≠ 16 → k ≠ 17 → τ 157 k = σ 157 k
section
variable {σ : sg} {P : gP} {n : Nat} {T : Nat → Nat → Nat} {M : Nat → Nat} {tc : Nat}
def pkRM (P : gP) (n : Nat) (T : Nat → Nat → Nat) (M : Nat → Nat) (tc : Nat) (PL : gP) (v : Int32) (τ : sg) : Prop := (pkOK P n T M tc PL (nb P n n) ∧ v = nI (pkN P n T M tc PL (nb P n n)).1 ∧ τ 157 16 = nI 1 ∧ pM τ (pkN P n T M tc PL (nb P n n))) ∨ (∃ t, t < nb P n n ∧ pkOK P n T M tc PL t ∧ ¬ okB P n T M tc t (pkN P n T M tc PL t) ∧ v = mI 8 ∧ τ 157 16 = nI 0 ∧ plM τ (pkN P n T M tc PL (t + 1)).2.1)
theorem x9_pack {PL : gP} (hM : rM σ P) (hV : pVs P) (hn9 : σ 157 0 = nI n) (hn : n ≤ 40) (hc : cmpl P n) (htc : σ 157 8 = nI tc) (h8 : tc ≤ 8) (ht : ∀ t, t < tc → tpM σ t (T t) (M t)) (hPL : plM σ PL) : ∃ (v : Int32) (σ' : sg), f_X9_pack σ = some (v, σ') ∧ pkRM P n T M tc PL v σ' ∧ pkFrM σ σ' := by
  have hnb := nb_le P n n
  obtain ⟨τ0, q1, q2, q3, b1, b2, b3⟩ := x9_find hM hn9 hn hV
  unfold f_X9_pack L_X9_pack_26
  rw [x9_compl hM hn9 hn hV, Option.bind_some, if_tf, cif_t hc, q1, Option.bind_some, Option.bind_some, Option.bind_some, l_0, l_1]
  refine Exists.elim (loop_k2 (F := B_X9_pack_26) (nb P n n) (fun t τ => ((pkOK P n T M tc PL t ∧ τ 157 16 = nI 1 ∧ pM τ (pkN P n T M tc PL t)) ∨ (∃ u, t = u + 1 ∧ u < nb P n n ∧ pkOK P n T M tc PL u ∧ ¬ okB P n T M tc u (pkN P n T M tc PL u) ∧ τ 157 16 = nI 0 ∧ plM τ (pkN P n T M tc PL t).2.1)) ∧ (∀ r, r ≠ 157 → ¬ (623 ≤ r ∧ r ≤ 728) → τ r = τ0 r) ∧ ∀ k, k ≠ 13 → k ≠ 14 → k ≠ 15 → k ≠ 16 → k ≠ 17 → τ 157 k = τ0 157 k) (fun z => pkRM P n T M tc PL z.1 z.2 ∧ (∀ r, r ≠ 157 → ¬ (623 ≤ r ∧ r ≤ 728) → z.2 r = τ0 r) ∧ ∀ k, k ≠ 13 → k ≠ 14 → k ≠ 15 → k ≠ 16 → k ≠ 17 → z.2 157 k = τ0 157 k) (fun t τ hk hR => ?_) (fu := gN) (gN_gt (by omega)) (b := up (up τ0 157 17 (nI 0)) 157 16 (nI 1)) ⟨Or.inl ⟨fun u hu => absurd hu (Nat.not_lt_zero u), up_same _ _ _ _, ⟨by rw [up_k (by decide), up_same]; rfl, fun i hi => absurd hi (Nat.not_lt_zero i)⟩, fun i j hi hj => by rw [up_r (by omega), up_r (by omega), q2 (687 + i) (by omega) (by omega) (by omega)]; exact hPL i j hi hj⟩, fun r g1 g2 => by rw [up_r g1, up_r g1], fun k g1 g2 g3 g4 g5 => by rw [up_k g4, up_k g5]⟩) (fun z hz => ⟨z.1, z.2, hz.1, hz.2.1, fun r g1 g2 g3 g4 => by rw [hz.2.2.1 r g1 g4, q2 r g1 g2 g3], fun k g1 g2 g3 g4 g5 g6 => by rw [hz.2.2.2 k g2 g3 g4 g5 g6, q3 k g1]⟩)
  obtain ⟨hA, hfr, hfk⟩ := hR
  have r7 : τ 157 7 = nI (nb P n n) := by rw [hfk 7 (by decide) (by decide) (by decide) (by decide) (by decide)]; exact b1
  unfold B_X9_pack_26 J_X9_pack_56
  rcases hA with ⟨ok, h16, hp⟩ | ⟨w, rfl, hw, ok, nok, h16, hp⟩
  · by_cases te : t = nb P n n
    · rw [if_pos (show τ 157 7 ≤ nI t by rw [r7, nI_lei (by omega) (by omega)]; omega), if_neg (show ¬ τ 157 16 = 0 by rw [h16]; decide), Option.bind_some]
      rw [te] at ok hp
      exact Or.inr ⟨_, rfl, Or.inl ⟨ok, hp.1.1, h16, hp⟩, hfr, hfk⟩
    have htn : t < nb P n n := by omega
    obtain ⟨s, hs⟩ : ∃ s, s = pkN P n T M tc PL t := ⟨_, rfl⟩
    have es : pkN P n T M tc PL (t + 1) = pk1 P n T M tc t s := by rw [hs]; rfl
    have s60 : s.1 ≤ 60 := by rw [hs]; exact pkN_le t
    rw [← hs] at hp
    have he : bgn P n (t + 1) ≤ 40 := Nat.le_trans (bgn_le _) hn
    have hlt := bgn_lt (P := P) htn
    have fσ : ∀ r, r ≠ 157 → r ≠ 611 → r ≠ 612 → ¬ (623 ≤ r ∧ r ≤ 728) → τ r = σ r := fun r g1 g2 g3 g4 => by rw [hfr r g1 g4, q2 r g1 g2 g3]
    rw [if_neg (show ¬ τ 157 7 ≤ nI t by rw [r7, nI_lei (by omega) (by omega)]; omega), if_neg (show ¬ τ 157 16 = 0 by rw [h16]; decide)]
    obtain ⟨k, σ', v, e1, e2, e3, e4, e60, e5⟩ := x9_blk (σ := τ) (b := bgn P n t) (e := bgn P n (t + 1)) (T := T) (M := M) (tc := tc) (c0 := s.1) (blk := t) (a := aB (bgn P n t) s.2.1) (rM_fr hM (fun r g1 g2 => fσ r (by omega) (by omega) (by omega) (by omega))) hV (by rw [hfk 8 (by decide) (by decide) (by decide) (by decide) (by decide), q3 8 (by decide)]; exact htc) h8 (fun w hw => by
      obtain ⟨a1, a2, a3, a4⟩ := ht w hw
      exact ⟨a1, by rw [fσ 622 (by decide) (by decide) (by decide) (by omega)]; exact a2, a3, fun j hj => by rw [fσ (614 + w) (by omega) (by omega) (by omega) (by omega)]; exact a4 j hj⟩) (fun i i1 i2 => by
      have := bgn_le (P := P) (n := n) (t + 1)
      rw [hfr 611 (by decide) (by omega), b2 i (by omega), blk_of htn i1 i2]; rfl) (by rw [hfr 612 (by decide) (by omega)]; exact b3 t (by omega)) (by rw [hfr 612 (by decide) (by omega)]; exact b3 (t + 1) (by omega)) he (by omega) hp.1.1 s60 rfl rfl (Nat.le_of_lt hlt) hp.2
    obtain ⟨g17, g623, gP, gm, go, gr, g57⟩ := e5
    have ek : kB P n T M tc t s = k := kB_eq e2 e3
    have eok : v = tf (okB P n T M tc t s) := by
      rw [e4]
      unfold okB
      rw [ek]
      exact tf_c ⟨fun q => q.2, fun q => ⟨Or.inr q, q⟩⟩
    rw [e1, Option.bind_some, eok]
    refine Or.inl ⟨up σ' 157 16 (tf (okB P n T M tc t s)), ?_, htn, ?_, fun r g1 g2 => by rw [up_r g1, gr r g1 g2]; exact hfr r g1 g2, fun j g1 g2 g3 g4 g5 => by rw [up_k g4, g57 j g1 g2 g3 g5]; exact hfk j g1 g2 g3 g4 g5⟩
    · rw [nz_tf, Option.bind_some, l_1, nI_add]
    by_cases hok : okB P n T M tc t s
    · rw [tf_t hok]
      refine Or.inl ⟨fun w hw => ?_, up_same _ _ _ _, ?_⟩
      · by_cases ew : w = t
        · rw [ew, ← hs]; exact hok
        · exact ok w (by omega)
      · rw [es]
        refine ⟨⟨?_, fun i hi => ?_⟩, ?_⟩
        · show up σ' 157 16 (nI 1) 157 17 = nI (s.1 + kB P n T M tc t s)
          rw [ek, up_k (by decide)]; exact g17
        · change i < s.1 + kB P n T M tc t s at hi
          rw [ek] at hi
          show up σ' 157 16 (nI 1) 727 i = (if i < s.1 then s.2.2.1 i else nI (tmB P (bgn P n t) (bgn P n (t + 1)) T M tc (abB P n T M tc t s (i - s.1)))) ∧ up σ' 157 16 (nI 1) 728 i = (if i < s.1 then s.2.2.2.1 i else nI t) ∧ ∀ j, j < 3 → up σ' 157 16 (nI 1) (626 + i) j = (if i < s.1 then s.2.2.2.2.1 i else (abB P n T M tc t s (i - s.1 + 1)).1.2.2.2) j
          rw [up_r (by decide), up_r (by decide), up_r (by omega)]
          by_cases ci : i < s.1
          · rw [if_pos ci, if_pos ci, if_pos ci, (go i ci).1, (go i ci).2.1, (go i ci).2.2]
            exact hp.1.2 i ci
          · rw [if_neg ci, if_neg ci, if_neg ci]
            have := gm (i - s.1) (by omega)
            rw [show s.1 + (i - s.1) = i by omega] at this
            exact this
        · show plM (up σ' 157 16 (nI 1)) (abB P n T M tc t s (kB P n T M tc t s)).2.1
          rw [ek]
          intro i j hi hj
          rw [up_r (by omega)]; exact gP i j hi hj
    · rw [tf_f hok]
      refine Or.inr ⟨t, rfl, htn, ok, by rw [← hs]; exact hok, up_same _ _ _ _, ?_⟩
      rw [es]
      show plM (up σ' 157 16 (nI 0)) (abB P n T M tc t s (kB P n T M tc t s)).2.1
      rw [ek]
      intro i j hi hj
      rw [up_r (by omega)]; exact gP i j hi hj
  · have fin : (some ((-8 : Int32), τ)).bind (fun t => some (Sum.inr (α := Int32 × sg) t)) = some (.inr ((-8 : Int32), τ)) := rfl
    have hQ : pkRM P n T M tc PL (-8) τ := Or.inr ⟨w, hw, ok, nok, rfl, h16, hp⟩
    rw [if_pos (show τ 157 16 = 0 from h16), if_pos (show τ 157 16 = 0 from h16)]
    refine Or.inr ⟨((-8 : Int32), τ), ?_, hQ, hfr, hfk⟩
    by_cases te : nb P n n ≤ w + 1
    · rw [if_pos (show τ 157 7 ≤ nI (w + 1) by rw [r7, nI_lei (by omega) (by omega)]; omega)]; rfl
    · rw [if_neg (show ¬ τ 157 7 ≤ nI (w + 1) by rw [r7, nI_lei (by omega) (by omega)]; omega)]; rfl
/-- the facts of a packing -/
def iPk (σ : sg) (P : gP) (n : Nat) : Prop := ∃ (c : Nat) (TM BL : Nat → Int32) (SL : Nat → Nat → Int32) (G : Nat → Nat), buI σ c TM BL SL ∧ buM σ c TM BL SL ∧ buV c BL SL ∧ cI σ (cdN TM BL SL c) ∧ (∀ u, u < nb P n n → σ 143 u = nI ((cdN TM BL SL c).2.2 u) ∧ ∃ i, i < c ∧ BL i = nI u) ∧ (∀ i, i < n → σ 141 i = nI (G i) ∧ σ (687 + i) 2 = nI (G i) ∧ G i ≤ 180) ∧ (∀ u, u < nb P n n → ∀ x, bgn P n u ≤ x → x < bgn P n (u + 1) → rdy P (bgn P n u) x (G x) G ∧ ∀ i, bgn P n u ≤ i → i ≤ x → G i ≤ G x) ∧ ∀ u, u < nb P n n → σ 142 u = nI (mxN P G (bgn P n u) (bgn P n (u + 1) - bgn P n u))
def iPls (σ : sg) : Prop := ∃ PL, plI σ PL ∧ plM σ PL
/-- the places that packing writes -/
def pkD (r k : Nat) : Prop := (72 ≤ r ∧ r ≤ 144) ∨ (r = 157 ∧ (k = 7 ∨ k = 13 ∨ k = 14 ∨ k = 15 ∨ k = 16 ∨ k = 17)) ∨ r = 611 ∨ r = 612 ∨ (623 ≤ r ∧ r ≤ 728)
theorem pk_ok {z : Prop} (hp : iProg σ P n) (hb : iBlk σ P n) (ht : iTmp σ tc) (hl : iPls σ) (hf : iFlg σ z) (hz : z → cmpl P n ∧ iPk σ P n) : ∃ (v : Int32) (σ1 σ2 : sg) (z' : Prop), f_X8_pack σ = some (v, σ1) ∧ f_X9_pack σ1 = some (v, σ2) ∧ iPls σ2 ∧ iFlg σ2 z' ∧ (z' → cmpl P n ∧ iPk σ2 P n) ∧ ∀ r k, ¬ pkD r k → σ2 r k = σ r k := by
  obtain ⟨hI, hM, hV, hn1, hn9, hn40⟩ := id hp
  obtain ⟨b1, b2, b3⟩ := hb
  refine Or.elim (Classical.em (cmpl P n)).symm (fun hc => ?_) (fun hc => ?_)
  · refine ⟨-6, σ, σ, z, ?_, ?_, hl, hf, hz, fun _ _ _ => rfl⟩
    · unfold f_X8_pack
      rw [if_pos (show σ 57 4 = 0 by rw [b1, tf_0]; exact hc)]
    · unfold f_X9_pack
      rw [compl_ok hp, Option.bind_some, if_tf, cif_f hc]
  obtain ⟨PL, hPI, hPM⟩ := hl
  obtain ⟨t1, t2, t8, tt⟩ := ht
  obtain ⟨TT, hTT⟩ : ∃ TT : Nat → Nat → Nat, ∀ t j, TT t j = (σ (63 + t) j).toNatClampNeg := ⟨fun t j => (σ (63 + t) j).toNatClampNeg, fun _ _ => rfl⟩
  obtain ⟨MM, hMM⟩ : ∃ MM : Nat → Nat, ∀ t, MM t = (σ 71 t).toNatClampNeg := ⟨fun t => (σ 71 t).toNatClampNeg, fun _ => rfl⟩
  have hty : ∀ t, t < tc → tpI σ t (TT t) (MM t) := fun t h => by
    obtain ⟨a1, ⟨y, y1, y2⟩, a3⟩ := tt t h
    refine ⟨by omega, ?_, ?_, fun j hj => ?_⟩
    · rw [hMM, y2, nI_clamp (by omega)]
    · rw [hMM, y2, nI_clamp (by omega)]; exact y1
    · obtain ⟨c1, w, w1, w2⟩ := a3 j hj
      rw [hTT, w2, nI_clamp (by omega)]
      exact ⟨rfl, w1⟩
  obtain ⟨v1, σ1, e1, e2, e3⟩ := x8_pack (T := TT) (M := MM) hI hV hn40 hc b1 (b2 hc) t1 t8 hty hPI
  have htm : ∀ t, t < tc → tpM σ1 t (TT t) (MM t) := fun t h => by
    obtain ⟨a1, a2, a3, a4⟩ := hty t h
    obtain ⟨d1, d2, d3⟩ := tt t h
    refine ⟨a1, ?_, a3, fun j hj => ?_⟩
    · rw [e3 622 (by omega), d1]; exact a2
    · rw [e3 (614 + t) (by omega), (d3 j hj).1]; exact a4 j hj
  obtain ⟨v2, σ2, g1, g2, g3, g4⟩ := x9_pack (σ := σ1) (PL := PL) (T := TT) (M := MM) (rM_fr hM (fun r q1 q2 => e3 r (by omega))) hV (by rw [e3 157 (by omega)]; exact hn9) hn40 hc (by rw [e3 157 (by omega)]; exact t2) t8 htm (fun i j hi hj => by rw [e3 (687 + i) (by omega)]; exact hPM i j hi hj)
  have hlow : ∀ r, 72 ≤ r → r ≤ 144 → σ2 r = σ1 r := fun r q1 q2 => g3 r (by omega) (by omega) (by omega) (by omega)
  have fr : ∀ r k, ¬ pkD r k → σ2 r k = σ r k := fun r k h => by
    unfold pkD at h
    by_cases e : r = 157
    · subst e
      rw [g4 k (by omega) (by omega) (by omega) (by omega) (by omega) (by omega), e3 157 (by omega)]
    · rw [g3 r e (by omega) (by omega) (by omega), e3 r (by omega)]
  have s75 : σ2 75 = σ1 75 := hlow 75 (by decide) (by decide)
  have plf : ∀ Q : gP, plI σ1 Q → plI σ2 Q := fun Q h i hi => by
    rw [hlow 139 (by decide) (by decide), hlow 140 (by decide) (by decide), hlow 141 (by decide) (by decide)]; exact h i hi
  rcases e2 with ⟨ok, rfl, p12, pp, pc, p143⟩ | ⟨t, t3, ok, nok, rfl, p12, pp⟩
  · rcases g2 with ⟨ok', rfl, m16, mm⟩ | ⟨t', t3', ok', nok', rfl, m16, mm⟩
    · obtain ⟨f1, f2, f3, f4, f5, f6, f7⟩ := pkF_N hn40 (nb P n n) (Nat.le_refl _) ok
      refine ⟨_, σ1, σ2, True, e1, g1, ⟨_, plf _ pp.2.1, mm.2⟩, ⟨by rw [s75, p12, tf_true], by rw [m16, tf_true]⟩, fun _ => ⟨hc, _, _, _, _, gPL (pkN P n TT MM tc PL (nb P n n)).2.1, ⟨?_, fun i hi => ?_⟩, mm.1, pk_buV hn40 ok, ⟨?_, fun k hk => ?_⟩, fun u hu => ⟨?_, f7 u hu⟩, fun i hi => ?_, f3, fun u hu => ?_⟩, fr⟩
      · rw [s75]; exact pp.1.1
      · rw [hlow 137 (by decide) (by decide), hlow 138 (by decide) (by decide), hlow (77 + i) (by omega) (by omega)]
        exact pp.1.2 i hi
      · rw [s75]; exact pc.1
      · rw [hlow 144 (by decide) (by decide)]; exact pc.2 k hk
      · obtain ⟨i, i1, i2⟩ := f7 u hu
        have := p143 i i1
        have hnb := nb_le P n n
        rw [i2, ixs_nI (by omega)] at this
        rw [hlow 143 (by decide) (by decide)]; exact this
      · have hbn : bgn P n (nb P n n) = n := bgn_out (Nat.le_refl _)
        obtain ⟨z1, z2⟩ := f2 i (by rw [hbn]; exact hi)
        refine ⟨?_, ?_, z2⟩
        · rw [hlow 141 (by decide) (by decide), (pp.2.1 i (by omega)).2.2]; exact z1
        · rw [mm.2 i 2 (by omega) (by decide)]; exact z1
      · rw [hlow 142 (by decide) (by decide), pp.2.2 u hu, f4 u hu]
    · exact absurd (ok t' t3') nok'
  · rcases g2 with ⟨ok', rfl, m16, mm⟩ | ⟨t', t3', ok', nok', rfl, m16, mm⟩
    · exact absurd (ok' t t3) nok
    · have et : t' = t := by
        rcases Nat.lt_trichotomy t' t with h | h | h
        · exact absurd (ok t' h) nok'
        · exact h
        · exact absurd (ok' t h) nok
      subst et
      exact ⟨_, σ1, σ2, False, e1, g1, ⟨_, plf _ pp, mm⟩, ⟨by rw [s75, p12, tf_false], by rw [m16, tf_false]⟩, False.elim, fr⟩
end
