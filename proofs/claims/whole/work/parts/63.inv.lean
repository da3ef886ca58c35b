/-! THE INVARIANT OF BOTH OBJECTS, AND EVERY CALL -/
def pkE (r k : Nat) : Prop := (r = 75 ∧ (k = 10 ∨ k = 11 ∨ k = 12)) ∨ (77 ≤ r ∧ r ≤ 144) ∨ (r = 157 ∧ (k = 16 ∨ k = 17)) ∨ (626 ≤ r ∧ r ≤ 728)
def maE (r : Nat) : Prop := r = 146 ∨ r = 147 ∨ r = 731
def InvA (σ : sg) (P : gP) (n tc : Nat) (z : Prop) : Prop := iProg σ P n ∧ iBlk σ P n ∧ iHist σ P n ∧ iTmp σ tc ∧ iMach σ ∧ iPls σ ∧ iFlg σ z ∧ (z → cmpl P n ∧ iPk σ P n)
def Inv (σ : sg) : Prop := ∃ (P : gP) (n tc : Nat) (z : Prop), InvA σ P n tc z
section
variable {σ τ : sg} {P : gP} {n tc : Nat} {z : Prop}
theorem ch_row (e : ∀ r k, chD r k → τ r k = σ r k) {r : Nat} (h : (1 ≤ r ∧ r ≤ 60) ∨ (158 ≤ r ∧ r ≤ 610)) : τ r = σ r := funext fun k => e r k (h.elim Or.inl (fun w => Or.inr (Or.inr w)))
theorem prog_fr (h : iProg σ P n) (e : ∀ r k, chD r k → τ r k = σ r k) : iProg τ P n := by
  obtain ⟨h1, h2, h3, h4, h5, h6⟩ := h
  exact ⟨rI_fr h1 (fun r q1 q2 => ch_row e (by omega)), rM_fr h2 (fun r q1 q2 => ch_row e (by omega)), h3, by rw [ch_row e (by omega)]; exact h4, by rw [e 157 0 (Or.inr (Or.inl ⟨rfl, Or.inl rfl⟩))]; exact h5, h6⟩
theorem blk_fr (h : iBlk σ P n) (e : ∀ r k, chD r k → τ r k = σ r k) : iBlk τ P n := by
  have e57 : τ 57 = σ 57 := ch_row e (by omega)
  have e58 : τ 58 = σ 58 := ch_row e (by omega)
  have e59 : τ 59 = σ 59 := ch_row e (by omega)
  unfold iBlk BKI at h ⊢
  rw [e57, e58, e59]
  exact h
theorem Hc_fr (e : ∀ r k, chD r k → τ r k = σ r k) : ∀ (c : Nat), c ≤ 10 → ∀ (q : Nat) (P : gP) (n : Nat), Hc σ c q P n → Hc τ c q P n := by
  intro c
  induction c with
  | zero => intro _ q P n _; trivial
  | succ c ih =>
    intro hc q P n h
    obtain ⟨m, i, h1, h2, h3, h4, h5, h6, h7, h8⟩ := h
    have e44 : τ 44 = σ 44 := ch_row e (by omega)
    have e45 : τ 45 = σ 45 := ch_row e (by omega)
    have e47 : τ (47 + (q + 9) % 10) = σ (47 + (q + 9) % 10) := ch_row e (by omega)
    have e610 : τ 610 = σ 610 := ch_row e (by omega)
    have eR : hRow τ ((q + 9) % 10) i P = hRow σ ((q + 9) % 10) i P := by
      unfold hRow
      rw [e47]
    refine ⟨m, i, by rw [e44]; exact h1, h2, by rw [e45]; exact h3, h4, by rw [eR]; exact h5, by rw [e610]; exact h6, fun x j hx hj => ?_, by rw [eR]; exact ih (by omega) _ _ _ h8⟩
    rw [eR, ch_row e (show (1 ≤ 201 + 41 * c + x ∧ 201 + 41 * c + x ≤ 60) ∨ (158 ≤ 201 + 41 * c + x ∧ 201 + 41 * c + x ≤ 610) by omega)]
    exact h7 x j hx hj
theorem hist_fr (h : iHist σ P n) (e : ∀ r k, chD r k → τ r k = σ r k) : iHist τ P n := by
  obtain ⟨c, q, h1, h2, h3, h4, h5, h6⟩ := h
  have e43 : τ 43 = σ 43 := ch_row e (by omega)
  exact ⟨c, q, h1, h2, by rw [e43]; exact h3, by rw [e43]; exact h4, by rw [e 157 4 (Or.inr (Or.inl ⟨rfl, Or.inr rfl⟩))]; exact h5, Hc_fr e c h1 q P n h6⟩
theorem tmp_fr (h : iTmp σ tc) (e : ∀ r k, tmD r k → τ r k = σ r k) : iTmp τ tc := by
  obtain ⟨h1, h2, h3, h4⟩ := h
  refine ⟨by rw [e 61 2 (Or.inl (by omega))]; exact h1, by rw [e 157 8 (Or.inr (Or.inl ⟨rfl, rfl⟩))]; exact h2, h3, fun t ht => ?_⟩
  obtain ⟨a1, a2, a3⟩ := h4 t ht
  rw [e 622 t (Or.inr (Or.inr (by omega))), e 71 t (Or.inl (by omega))]
  refine ⟨a1, a2, fun j hj => ?_⟩
  rw [e (614 + t) j (Or.inr (Or.inr (by omega))), e (63 + t) j (Or.inl (by omega))]
  exact a3 j hj
theorem mach_fr (h : iMach σ) (e : ∀ r, maE r → τ r = σ r) : iMach τ := by
  unfold iMach at h ⊢
  rw [e 146 (Or.inl rfl), e 147 (Or.inr (Or.inl rfl)), e 731 (Or.inr (Or.inr rfl))]
  exact h
theorem pk_row (e : ∀ r k, pkE r k → τ r k = σ r k) {r : Nat} (h : (77 ≤ r ∧ r ≤ 144) ∨ (626 ≤ r ∧ r ≤ 728)) : τ r = σ r := funext fun k => e r k (h.elim (fun w => Or.inr (Or.inl w)) (fun w => Or.inr (Or.inr (Or.inr w))))
theorem pls_fr (h : iPls σ) (e : ∀ r k, pkE r k → τ r k = σ r k) : iPls τ := by
  obtain ⟨PL, h1, h2⟩ := h
  refine ⟨PL, fun i hi => ?_, fun i j hi hj => ?_⟩
  · rw [pk_row e (r := 139) (by omega), pk_row e (r := 140) (by omega), pk_row e (r := 141) (by omega)]; exact h1 i hi
  · rw [pk_row e (r := 687 + i) (by omega)]; exact h2 i j hi hj
theorem flg_fr (h : iFlg σ z) (e : ∀ r k, pkE r k → τ r k = σ r k) : iFlg τ z := ⟨by rw [e 75 12 (Or.inl ⟨rfl, Or.inr (Or.inr rfl)⟩)]; exact h.1, by rw [e 157 16 (Or.inr (Or.inr (Or.inl ⟨rfl, Or.inl rfl⟩)))]; exact h.2⟩
theorem pk_fr (h : iPk σ P n) (hn : n ≤ 40) (e : ∀ r k, pkE r k → τ r k = σ r k) : iPk τ P n := by
  obtain ⟨c, TM, BL, SL, G, i1, i2, i3, i4, i5, i6, i7, i8⟩ := h
  have hc := i3.1
  refine ⟨c, TM, BL, SL, G, ⟨by rw [e 75 11 (Or.inl ⟨rfl, Or.inr (Or.inl rfl)⟩)]; exact i1.1, fun i hi => ?_⟩, ⟨by rw [e 157 17 (Or.inr (Or.inr (Or.inl ⟨rfl, Or.inr rfl⟩)))]; exact i2.1, fun i hi => ?_⟩, i3, ⟨by rw [e 75 10 (Or.inl ⟨rfl, Or.inl rfl⟩)]; exact i4.1, fun k hk => ?_⟩, fun u hu => ⟨?_, (i5 u hu).2⟩, fun i hi => ⟨?_, ?_, (i6 i hi).2.2⟩, i7, fun u hu => ?_⟩
  · rw [pk_row e (r := 137) (by omega), pk_row e (r := 138) (by omega), pk_row e (r := 77 + i) (by omega)]; exact i1.2 i hi
  · rw [pk_row e (r := 727) (by omega), pk_row e (r := 728) (by omega), pk_row e (r := 626 + i) (by omega)]; exact i2.2 i hi
  · rw [pk_row e (r := 144) (by omega)]; exact i4.2 k hk
  · rw [pk_row e (r := 143) (by omega)]; exact (i5 u hu).1
  · rw [pk_row e (r := 141) (by omega)]; exact (i6 i hi).1
  · rw [pk_row e (r := 687 + i) (by omega)]; exact (i6 i hi).2.1
  · rw [pk_row e (r := 142) (by omega)]; exact i8 u hu
theorem inv_fr (h : InvA σ P n tc z) (e : ∀ r k, chD r k ∨ tmD r k ∨ pkE r k ∨ maE r → τ r k = σ r k) : Inv τ := by
  obtain ⟨h1, h2, h3, h4, h5, h6, h7, h8⟩ := h
  have ec : ∀ r k, chD r k → τ r k = σ r k := fun r k q => e r k (Or.inl q)
  have et : ∀ r k, tmD r k → τ r k = σ r k := fun r k q => e r k (Or.inr (Or.inl q))
  have ep : ∀ r k, pkE r k → τ r k = σ r k := fun r k q => e r k (Or.inr (Or.inr (Or.inl q)))
  have em : ∀ r, maE r → τ r = σ r := fun r q => funext fun k => e r k (Or.inr (Or.inr (Or.inr q)))
  exact ⟨P, n, tc, z, prog_fr h1 ec, blk_fr h2 ec, hist_fr h3 ec, tmp_fr h4 et, mach_fr h5 em, pls_fr h6 ep, flg_fr h7 ep, fun q => ⟨(h8 q).1, pk_fr (h8 q).2 h1.2.2.2.2.2 ep⟩⟩
end
def P2 (f1 f2 : sg → Option (Int32 × sg)) : Prop := ∀ σ, Inv σ → ∃ (v : Int32) (σ1 σ2 : sg), f1 σ = some (v, σ1) ∧ f2 σ1 = some (v, σ2) ∧ Inv σ2
def P1 (f1 : sg → Option Int32) (f2 : sg → Option (Int32 × sg)) : Prop := ∀ σ, Inv σ → ∃ (v : Int32) (σ2 : sg), f1 σ = some v ∧ f2 σ = some (v, σ2) ∧ Inv σ2
def P0 (f1 f2 : sg → Option Int32) : Prop := ∀ σ, Inv σ → ∃ v : Int32, f1 σ = some v ∧ f2 σ = some v
def P0L (f1 f2 : sg → Option Int64) : Prop := ∀ σ, Inv σ → ∃ v : Int64, f1 σ = some v ∧ f2 σ = some v
/-- a change of the program, where there is a packing or not -/
theorem chg_inv {f1 f2 : sg → Option (Int32 × sg)} (h : ∀ σ P n tc z, InvA σ P n tc z → prOK f1 f2 σ) (hz : ∀ σ P n tc z, InvA σ P n tc z → z → ∃ v, f1 σ = some (v, σ) ∧ f2 σ = some (v, σ)) : P2 f1 f2 := by
  intro σ hI
  obtain ⟨P, n, tc, z, hA⟩ := hI
  by_cases c : z
  · obtain ⟨v, h1, h2⟩ := hz σ P n tc z hA c
    exact ⟨v, σ, σ, h1, h2, P, n, tc, z, hA⟩
  · obtain ⟨v, σ1, σ2, h1, h2, P', n', g1, g2, g3, g4⟩ := h σ P n tc z hA
    obtain ⟨i1, i2, i3, i4, i5, i6, i7, i8⟩ := hA
    refine ⟨v, σ1, σ2, h1, h2, P', n', tc, z, g1, g2, g3, tmp_fr i4 (fun r k q => g4 r k ?_), mach_fr i5 (fun r q => funext fun k => g4 r k ?_), pls_fr i6 (fun r k q => g4 r k ?_), flg_fr i7 (fun r k q => g4 r k ?_), fun q => absurd q c⟩
    · unfold tmD at q; unfold chD; omega
    · unfold maE at q; unfold chD; omega
    · unfold pkE at q; unfold chD; omega
    · unfold pkE at q; unfold chD; omega
section
variable {σ : sg} {P : gP} {n tc : Nat} {z : Prop}
theorem fl1 (h : InvA σ P n tc z) (hz : z) : ¬ σ 75 12 = 0 := by rw [h.2.2.2.2.2.2.1.1, tf_0]; exact fun q => q hz
theorem fl9 (h : InvA σ P n tc z) (hz : z) : ¬ σ 157 16 = 0 := by rw [h.2.2.2.2.2.2.1.2, tf_0]; exact fun q => q hz
end
theorem P_add (o d a b : Int32) : P2 (fun s => f_X8_add s o d a b) (fun s => f_X9_add s o d a b) := chg_inv (fun σ P n tc z h => add_ok h.1 h.2.1 h.2.2.1 h.2.2.2.2.2.2.1.1 h.2.2.2.2.2.2.1.2 o d a b) (fun σ P n tc z h hz => by
  show ∃ v, f_X8_add σ o d a b = some (v, σ) ∧ f_X9_add σ o d a b = some (v, σ)
  unfold f_X8_add f_X9_add
  rw [x6_ins, x9_ins, Option.bind_some, Option.bind_some, if_tf, if_tf, if_neg (fl1 h hz), if_neg (fl9 h hz)]
  by_cases c : vIns o.toInt d.toInt a.toInt b.toInt
  · rw [cif_t c]; exact ⟨-5, rfl, rfl⟩
  · rw [cif_f c]; exact ⟨-2, rfl, rfl⟩)
theorem P_set (x o d a b : Int32) : P2 (fun s => f_X8_set s x o d a b) (fun s => f_X9_set s x o d a b) := chg_inv (fun σ P n tc z h => set_ok h.1 h.2.1 h.2.2.1 h.2.2.2.2.2.2.1.1 h.2.2.2.2.2.2.1.2 x o d a b) (fun σ P n tc z h hz => by
  show ∃ v, f_X8_set σ x o d a b = some (v, σ) ∧ f_X9_set σ x o d a b = some (v, σ)
  unfold f_X8_set f_X9_set
  rw [has_x6 h.1, has_x9 h.1, Option.bind_some, Option.bind_some, if_tf, if_tf, x6_ins, x9_ins, Option.bind_some, Option.bind_some, if_tf, if_tf, if_neg (fl1 h hz), if_neg (fl9 h hz)]
  by_cases w : 0 ≤ x.toInt ∧ x.toInt < (n : Int)
  · rw [cif_t w]
    by_cases c : vIns o.toInt d.toInt a.toInt b.toInt
    · rw [cif_t c]; exact ⟨-5, rfl, rfl⟩
    · rw [cif_f c]; exact ⟨-2, rfl, rfl⟩
  · rw [cif_f w]; exact ⟨-1, rfl, rfl⟩)
theorem P_rml : P2 f_X8_removeLast f_X9_removeLast := chg_inv (fun σ P n tc z h => rml_ok h.1 h.2.1 h.2.2.1 h.2.2.2.2.2.2.1.1 h.2.2.2.2.2.2.1.2) (fun σ P n tc z h hz => by
  unfold f_X8_removeLast f_X9_removeLast
  rw [if_neg (fl1 h hz), if_neg (fl9 h hz)]
  exact ⟨-5, rfl, rfl⟩)
theorem P_undo : P2 f_X8_undo f_X9_undo := chg_inv (fun σ P n tc z h => undo_ok h.1 h.2.1 h.2.2.1 h.2.2.2.2.2.2.1.1 h.2.2.2.2.2.2.1.2) (fun σ P n tc z h hz => by
  unfold f_X8_undo f_X9_undo
  rw [if_neg (fl1 h hz), if_neg (fl9 h hz)]
  exact ⟨-5, rfl, rfl⟩)
/-- templates -/
theorem tmp_inv {f1 f2 : sg → Option (Int32 × sg)} (h : ∀ σ P n tc z, InvA σ P n tc z → tmOK f1 f2 σ) : P2 f1 f2 := by
  intro σ hI
  obtain ⟨P, n, tc, z, hA⟩ := hI
  obtain ⟨v, σ1, σ2, tc', h1, h2, g1, g2⟩ := h σ P n tc z hA
  obtain ⟨i1, i2, i3, i4, i5, i6, i7, i8⟩ := hA
  have ec : ∀ r k, chD r k → σ2 r k = σ r k := fun r k q => g2 r k (by unfold chD at q; unfold tmD; omega)
  have ep : ∀ r k, pkE r k → σ2 r k = σ r k := fun r k q => g2 r k (by unfold pkE at q; unfold tmD; omega)
  have em : ∀ r, maE r → σ2 r = σ r := fun r q => funext fun k => g2 r k (by unfold maE at q; unfold tmD; omega)
  exact ⟨v, σ1, σ2, h1, h2, P, n, tc', z, prog_fr i1 ec, blk_fr i2 ec, hist_fr i3 ec, g1, mach_fr i5 em, pls_fr i6 ep, flg_fr i7 ep, fun q => ⟨(i8 q).1, pk_fr (i8 q).2 i1.2.2.2.2.2 ep⟩⟩
theorem P_at (a b c m : Int32) : P2 (fun s => f_X8_addTemplate s a b c m) (fun s => f_X9_addTemplate s a b c m) := tmp_inv (fun σ P n tc z h => at_ok h.2.2.2.1 h.2.2.2.2.2.2.1.1 h.2.2.2.2.2.2.1.2 a b c m)
theorem P_cl : P2 f_X8_clearTemplates f_X9_clearTemplates := tmp_inv (fun σ P n tc z h => cl_ok h.2.2.2.1 h.2.2.2.2.2.2.1.1 h.2.2.2.2.2.2.1.2)
/-- queries -/
theorem ro_inv {f1 f2 : sg → Option Int32} (h : ∀ σ P n tc z, InvA σ P n tc z → roOK f1 f2 σ) : P0 f1 f2 := fun σ ⟨P, n, tc, z, hA⟩ => h σ P n tc z hA
theorem qu_inv {f1 : sg → Option Int32} {f2 : sg → Option (Int32 × sg)} (h : ∀ σ P n tc z, InvA σ P n tc z → quOK f1 f2 σ) : P1 f1 f2 := by
  intro σ hI
  obtain ⟨P, n, tc, z, hA⟩ := hI
  obtain ⟨v, τ, h1, h2, g1, g2⟩ := h σ P n tc z hA
  refine ⟨v, τ, h1, h2, inv_fr hA (fun r k q => ?_)⟩
  unfold chD tmD pkE maE at q
  by_cases c : r = 157
  · subst c; exact g2 k (by omega)
  · rw [g1 r c (by omega) (by omega)]
theorem qc_inv {f1 : sg → Option Int32} {f2 : sg → Option (Int32 × sg)} (h : ∀ σ P n tc z, InvA σ P n tc z → quC f1 f2 σ) : P1 f1 f2 := by
  intro σ hI
  obtain ⟨P, n, tc, z, hA⟩ := hI
  obtain ⟨v, τ, h1, h2, g1, g2⟩ := h σ P n tc z hA
  refine ⟨v, τ, h1, h2, inv_fr hA (fun r k q => ?_)⟩
  unfold chD tmD pkE maE at q
  by_cases c : r = 157
  · subst c; exact g2 k (by omega) (by omega)
  · rw [g1 r c (by omega) (by omega) (by omega) (by omega)]
theorem P_size : P0 f_X8_size f_X9_size := ro_inv (fun σ P n tc z h => size_ok h.1)
theorem P_part (x y : Int32) : P0 (fun s => f_X8_part s x y) (fun s => f_X9_part s x y) := ro_inv (fun σ P n tc z h => part_ok h.1 x y)
theorem P_bc : P1 f_X8_blockCount f_X9_blockCount := qu_inv (fun σ P n tc z h => bc_ok h.1 h.2.1)
theorem P_bo (x : Int32) : P1 (fun s => f_X8_blockOf s x) (fun s => f_X9_blockOf s x) := qu_inv (fun σ P n tc z h => bo_ok h.1 h.2.1 x)
theorem P_bb (x : Int32) : P1 (fun s => f_X8_blockBegin s x) (fun s => f_X9_blockBegin s x) := qu_inv (fun σ P n tc z h => bb_ok h.1 h.2.1 x)
theorem P_di (x y : Int32) : P1 (fun s => f_X8_distance s x y) (fun s => f_X9_distance s x y) := qu_inv (fun σ P n tc z h => di_ok h.1 h.2.1 x y)
theorem P_tc : P0 f_X8_templateCount f_X9_templateCount := ro_inv (fun σ P n tc z h => tc_ok h.2.2.2.1)
theorem P_te (x y : Int32) : P0 (fun s => f_X8_template s x y) (fun s => f_X9_template s x y) := ro_inv (fun σ P n tc z h => te_ok h.2.2.2.1 x y)
theorem P_bn : P0 f_X8_bundleCount f_X9_bundleCount := ro_inv (fun σ P n tc z h => by
  by_cases c : z
  · obtain ⟨k, hk⟩ := pk_iBun (h.2.2.2.2.2.2.2 c).2
    exact bn_ok (c := k) h.2.2.2.2.2.2.1 (fun _ => hk)
  · exact bn_ok (c := 0) h.2.2.2.2.2.2.1 (fun q => absurd q c))
theorem P_bu (x y : Int32) : P0 (fun s => f_X8_bundle s x y) (fun s => f_X9_bundle s x y) := ro_inv (fun σ P n tc z h => by
  by_cases c : z
  · obtain ⟨k, hk⟩ := pk_iBun (h.2.2.2.2.2.2.2 c).2
    exact bu_ok (c := k) h.2.2.2.2.2.2.1 (fun _ => hk) x y
  · exact bu_ok (c := 0) h.2.2.2.2.2.2.1 (fun q => absurd q c) x y)
theorem P_pl (x y : Int32) : P0 (fun s => f_X8_placeOf s x y) (fun s => f_X9_placeOf s x y) := ro_inv (fun σ P n tc z h => by
  obtain ⟨PL, h1, h2⟩ := h.2.2.2.2.2.1
  exact pl_ok h.1 h.2.2.2.2.2.2.1 h1 h2 x y)
theorem P_es : P0 f_X8_emptySlots f_X9_emptySlots := ro_inv (fun σ P n tc z h => by
  by_cases c : z
  · obtain ⟨k, hk⟩ := pk_iBun (h.2.2.2.2.2.2.2 c).2
    exact es_ok (c := k) h.1 h.2.2.2.2.2.2.1 (fun _ => hk)
  · exact es_ok (c := 0) h.1 h.2.2.2.2.2.2.1 (fun q => absurd q c))
theorem P_cy (x : Int32) : P1 (fun s => f_X8_cycles s x) (fun s => f_X9_cycles s x) := qc_inv (fun σ P n tc z h => cy_ok h.1 h.2.1 h.2.2.2.2.2.2.1 h.2.2.2.2.2.2.2 x)
theorem P_cle : P1 f_X8_codeLength f_X9_codeLength := qc_inv (fun σ P n tc z h => cl_ok2 h.2.2.2.2.2.2.1 h.2.2.2.2.2.2.2)
theorem P_co (x : Int32) : P1 (fun s => f_X8_code s x) (fun s => f_X9_code s x) := qc_inv (fun σ P n tc z h => co_ok h.2.2.2.2.2.2.1 h.2.2.2.2.2.2.2 x)
theorem P_ci (x : Int32) : P1 (fun s => f_X8_codeIndex s x) (fun s => f_X9_codeIndex s x) := qc_inv (fun σ P n tc z h => ci_ok h.1 h.2.1 h.2.2.2.2.2.2.1 h.2.2.2.2.2.2.2 x)
theorem P_re (x : Int32) : P0L (fun s => f_X8_register s x) (fun s => f_X9_register s x) := fun σ ⟨P, n, tc, z, hA⟩ => re_ok hA.2.2.2.2.1 x
theorem P_me (x : Int32) : P0L (fun s => f_X8_memory s x) (fun s => f_X9_memory s x) := fun σ ⟨P, n, tc, z, hA⟩ => me_ok hA.2.2.2.2.1 x
/-- registers and memory -/
theorem ma_inv {f1 f2 : sg → Option (Int32 × sg)} {D : Nat → Nat → Prop} (h : ∀ σ P n tc z, InvA σ P n tc z → ∃ (v : Int32) (σ1 σ2 : sg), f1 σ = some (v, σ1) ∧ f2 σ1 = some (v, σ2) ∧ iMach σ2 ∧ ∀ r k, ¬ D r k → σ2 r k = σ r k) (hD : ∀ r k, chD r k ∨ tmD r k ∨ pkE r k → ¬ D r k) : P2 f1 f2 := by
  intro σ hI
  obtain ⟨P, n, tc, z, hA⟩ := hI
  obtain ⟨v, σ1, σ2, h1, h2, g1, g2⟩ := h σ P n tc z hA
  obtain ⟨i1, i2, i3, i4, i5, i6, i7, i8⟩ := hA
  have ec : ∀ r k, chD r k → σ2 r k = σ r k := fun r k q => g2 r k (hD r k (Or.inl q))
  have et : ∀ r k, tmD r k → σ2 r k = σ r k := fun r k q => g2 r k (hD r k (Or.inr (Or.inl q)))
  have ep : ∀ r k, pkE r k → σ2 r k = σ r k := fun r k q => g2 r k (hD r k (Or.inr (Or.inr q)))
  exact ⟨v, σ1, σ2, h1, h2, P, n, tc, z, prog_fr i1 ec, blk_fr i2 ec, hist_fr i3 ec, tmp_fr i4 et, g1, pls_fr i6 ep, flg_fr i7 ep, fun q => ⟨(i8 q).1, pk_fr (i8 q).2 i1.2.2.2.2.2 ep⟩⟩
theorem P_sr (x v : Int32) : P2 (fun s => f_X8_setRegister s x v) (fun s => f_X9_setRegister s x v) := ma_inv (D := fun r _ => r = 146 ∨ r = 147 ∨ r = 731) (fun σ P n tc z h => by
  obtain ⟨w, σ1, σ2, h1, h2, h3, h4⟩ := sr_ok h.2.2.2.2.1 x v
  exact ⟨w, σ1, σ2, h1, h2, h3, fun r k q => by rw [h4 r (by omega) (by omega) (by omega)]⟩) (fun r k q => by unfold chD tmD pkE at q; omega)
theorem P_sm (x v : Int32) : P2 (fun s => f_X8_setMemory s x v) (fun s => f_X9_setMemory s x v) := ma_inv (D := fun r _ => r = 146 ∨ r = 147 ∨ r = 731) (fun σ P n tc z h => by
  obtain ⟨w, σ1, σ2, h1, h2, h3, h4⟩ := sm_ok h.2.2.2.2.1 x v
  exact ⟨w, σ1, σ2, h1, h2, h3, fun r k q => by rw [h4 r (by omega) (by omega) (by omega)]⟩) (fun r k q => by unfold chD tmD pkE at q; omega)
theorem P_run (x : Int32) : P2 (fun s => f_X8_run s x) (fun s => f_X9_run s x) := ma_inv (D := ruD) (fun σ P n tc z h => run_ok h.1 h.2.1 h.2.2.2.2.1 x) (fun r k q => by unfold chD tmD pkE at q; unfold ruD; omega)
theorem P_rb (x : Int32) : P2 (fun s => f_X8_runBundles s x) (fun s => f_X9_runBundles s x) := ma_inv (D := rbD) (fun σ P n tc z h => rb_ok h.1 h.2.1 h.2.2.2.2.1 h.2.2.2.2.2.2.1 h.2.2.2.2.2.2.2 x) (fun r k q => by unfold chD tmD pkE at q; unfold rbD; omega)
theorem P_cm (x : Int32) : P2 (fun s => f_X8_compare s x) (fun s => f_X9_compare s x) := ma_inv (D := cmD) (fun σ P n tc z h => cm_ok h.1 h.2.1 h.2.2.2.2.1 h.2.2.2.2.2.2.1 h.2.2.2.2.2.2.2 x) (fun r k q => by unfold chD tmD pkE at q; unfold cmD; omega)
theorem P_le (x y : Int32) : P2 (fun s => f_X8_least s x y) (fun s => f_X9_least s x y) := by
  intro σ hI
  obtain ⟨P, n, tc, z, hA⟩ := hI
  obtain ⟨v, σ1, σ2, h1, h2, g⟩ := le_ok hA.1 hA.2.1 hA.2.2.2.1 x y
  exact ⟨v, σ1, σ2, h1, h2, inv_fr hA (fun r k q => g r k (by unfold chD tmD pkE maE at q; unfold leD; omega))⟩
theorem P_pack : P2 f_X8_pack f_X9_pack := by
  intro σ hI
  obtain ⟨P, n, tc, z, hA⟩ := hI
  obtain ⟨i1, i2, i3, i4, i5, i6, i7, i8⟩ := hA
  obtain ⟨v, σ1, σ2, z', h1, h2, g1, g2, g3, g4⟩ := pk_ok i1 i2 i4 i6 i7 i8
  have ec : ∀ r k, chD r k → σ2 r k = σ r k := fun r k q => g4 r k (by unfold chD at q; unfold pkD; omega)
  have et : ∀ r k, tmD r k → σ2 r k = σ r k := fun r k q => g4 r k (by unfold tmD at q; unfold pkD; omega)
  have em : ∀ r, maE r → σ2 r = σ r := fun r q => funext fun k => g4 r k (by unfold maE at q; unfold pkD; omega)
  exact ⟨v, σ1, σ2, h1, h2, P, n, tc, z', prog_fr i1 ec, blk_fr i2 ec, hist_fr i3 ec, tmp_fr i4 et, mach_fr i5 em, g1, g2, g3⟩
theorem P_un : P2 f_X8_unpack f_X9_unpack := by
  intro σ hI
  obtain ⟨P, n, tc, z, hA⟩ := hI
  obtain ⟨i1, i2, i3, i4, i5, i6, i7, i8⟩ := hA
  have hb : ∃ c, z → iBun σ c := by
    by_cases c : z
    · obtain ⟨k, hk⟩ := pk_iBun (i8 c).2
      exact ⟨k, fun _ => hk⟩
    · exact ⟨0, fun q => absurd q c⟩
  obtain ⟨c, hb⟩ := hb
  obtain ⟨v, σ1, σ2, h1, h2, g1, g2, g3, g4⟩ := un_ok i7 hb
  have gen : ∀ r k, ¬ (r = 75 ∧ k = 12) → ¬ (r = 157 ∧ k = 16) → σ2 r k = σ r k := fun r k q1 q2 => by
    by_cases c1 : r = 75
    · subst c1; exact g3 k (by omega)
    · by_cases c2 : r = 157
      · subst c2; exact g4 k (by omega)
      · rw [g2 r c1 c2]
  have ec : ∀ r k, chD r k → σ2 r k = σ r k := fun r k q => gen r k (by unfold chD at q; omega) (by unfold chD at q; omega)
  have et : ∀ r k, tmD r k → σ2 r k = σ r k := fun r k q => gen r k (by unfold tmD at q; omega) (by unfold tmD at q; omega)
  have em : ∀ r, maE r → σ2 r = σ r := fun r q => g2 r (by unfold maE at q; omega) (by unfold maE at q; omega)
  refine ⟨v, σ1, σ2, h1, h2, P, n, tc, False, prog_fr i1 ec, blk_fr i2 ec, hist_fr i3 ec, tmp_fr i4 et, mach_fr i5 em, ?_, g1, False.elim⟩
  obtain ⟨PL, p1, p2⟩ := i6
  exact ⟨PL, fun i hi => by rw [g2 139 (by decide) (by decide), g2 140 (by decide) (by decide), g2 141 (by decide) (by decide)]; exact p1 i hi, fun i j hi hj => by rw [g2 (687 + i) (by omega) (by omega)]; exact p2 i j hi hj⟩
