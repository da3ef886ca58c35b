theorem dX9_isComplete_0 : decode cX9_isComplete 0 = .ok (.iconst 1, 1) := by decide +kernel
theorem dX9_isComplete_1 : decode cX9_isComplete 1 = .ok (.istore_n 1, 1) := by decide +kernel
theorem dX9_isComplete_2 : decode cX9_isComplete 2 = .ok (.iconst 0, 1) := by decide +kernel
theorem dX9_isComplete_3 : decode cX9_isComplete 3 = .ok (.istore_n 2, 1) := by decide +kernel
theorem dX9_isComplete_4 : decode cX9_isComplete 4 = .ok (.iload_n 2, 1) := by decide +kernel
theorem dX9_isComplete_5 : decode cX9_isComplete 5 = .ok (.aload_n 0, 1) := by decide +kernel
theorem dX9_isComplete_6 : decode cX9_isComplete 6 = .ok (.getfield 89, 3) := by decide +kernel
theorem dX9_isComplete_9 : decode cX9_isComplete 9 = .ok (.if_icmp .ge 40, 3) := by decide +kernel
theorem dX9_isComplete_12 : decode cX9_isComplete 12 = .ok (.iload_n 1, 1) := by decide +kernel
theorem dX9_isComplete_13 : decode cX9_isComplete 13 = .ok (.aload_n 0, 1) := by decide +kernel
theorem dX9_isComplete_14 : decode cX9_isComplete 14 = .ok (.iload_n 2, 1) := by decide +kernel
theorem dX9_isComplete_15 : decode cX9_isComplete 15 = .ok (.invokevirtual 131, 3) := by decide +kernel
theorem dX9_isComplete_18 : decode cX9_isComplete 18 = .ok (.ifCond .eq 18, 3) := by decide +kernel
theorem dX9_isComplete_21 : decode cX9_isComplete 21 = .ok (.aload_n 0, 1) := by decide +kernel
theorem dX9_isComplete_22 : decode cX9_isComplete 22 = .ok (.getfield 11, 3) := by decide +kernel
theorem dX9_isComplete_25 : decode cX9_isComplete 25 = .ok (.iload_n 2, 1) := by decide +kernel
theorem dX9_isComplete_26 : decode cX9_isComplete 26 = .ok (.aaload, 1) := by decide +kernel
theorem dX9_isComplete_27 : decode cX9_isComplete 27 = .ok (.iconst 2, 1) := by decide +kernel
theorem dX9_isComplete_28 : decode cX9_isComplete 28 = .ok (.iaload, 1) := by decide +kernel
theorem dX9_isComplete_29 : decode cX9_isComplete 29 = .ok (.aload_n 0, 1) := by decide +kernel
theorem dX9_isComplete_30 : decode cX9_isComplete 30 = .ok (.getfield 89, 3) := by decide +kernel
theorem dX9_isComplete_33 : decode cX9_isComplete 33 = .ok (.if_icmp .ge 7, 3) := by decide +kernel
theorem dX9_isComplete_36 : decode cX9_isComplete 36 = .ok (.iconst 1, 1) := by decide +kernel
theorem dX9_isComplete_37 : decode cX9_isComplete 37 = .ok (.goto 4, 3) := by decide +kernel
theorem dX9_isComplete_40 : decode cX9_isComplete 40 = .ok (.iconst 0, 1) := by decide +kernel
theorem dX9_isComplete_41 : decode cX9_isComplete 41 = .ok (.iand, 1) := by decide +kernel
theorem dX9_isComplete_42 : decode cX9_isComplete 42 = .ok (.istore_n 1, 1) := by decide +kernel
theorem dX9_isComplete_43 : decode cX9_isComplete 43 = .ok (.iinc 2 1, 3) := by decide +kernel
theorem dX9_isComplete_46 : decode cX9_isComplete 46 = .ok (.goto (-42), 3) := by decide +kernel
theorem dX9_isComplete_49 : decode cX9_isComplete 49 = .ok (.iload_n 1, 1) := by decide +kernel
theorem dX9_isComplete_50 : decode cX9_isComplete 50 = .ok (.ireturn, 1) := by decide +kernel
abbrev rm_X9_isComplete : Room := { frames := 2, cells := 0, slots := 0, locals := 42 }
theorem w_X9_isComplete_41 {X : gX} {σ : sg} {x2 : Int32} {t0 : Int32} {t1 : Int32} {r0 : Int32} {r1 : ((Int32 × Int32) ⊕ Int32)} (C : gC X cX9_isComplete 3 RX9 (some .boolean) rm_X9_isComplete)  (hQ : gQ X (qI (XG X) r0 σ)) (A1 : ∀ b, r1 = .inl b → G X 3 σ 4 [(0, .ref (Xd X 157)), (1, .int b.1), (2, .int b.2)] []) (B1 : ∀ b, r1 = .inr b → b = r0) (hf : J_X9_isComplete_41 σ x2 t0 t1 = some r1) : G X 3 σ 41 [(0, .ref (Xd X 157)), (2, .int x2)] [.int t0, .int t1] := by
  unfold J_X9_isComplete_41 at hf
  refine g_iand C dX9_isComplete_41 ?_
  refine g_istore_n C (lv' := [(1, .int (t1 &&& t0)), (0, .ref (Xd X 157)), (2, .int x2)]) dX9_isComplete_42 (by decide) rfl ?_
  refine g_iinc C (v := x2 + (1 : Int32)) (lv' := [(2, .int (x2 + (1 : Int32))), (1, .int (t1 &&& t0)), (0, .ref (Xd X 157))]) 2 dX9_isComplete_43 rfl rfl (by decide) rfl ?_
  refine g_goto C 4 dX9_isComplete_46 (by decide) ?_
  refine g_sub [2, 1, 0] rfl ?_
  exact A1 (t1 &&& t0, x2 + (1 : Int32)) (Option.some.inj hf).symm
theorem w_X9_isComplete_36 {X : gX} {σ : sg} {x2 : Int32} {t0 : Int32} {r0 : Int32} {r1 : ((Int32 × Int32) ⊕ Int32)} (C : gC X cX9_isComplete 3 RX9 (some .boolean) rm_X9_isComplete)  (hQ : gQ X (qI (XG X) r0 σ)) (A1 : ∀ b, r1 = .inl b → G X 3 σ 4 [(0, .ref (Xd X 157)), (1, .int b.1), (2, .int b.2)] []) (B1 : ∀ b, r1 = .inr b → b = r0) (hf : J_X9_isComplete_36 σ x2 t0 = some r1) : G X 3 σ 36 [(0, .ref (Xd X 157)), (2, .int x2)] [.int t0] := by
  unfold J_X9_isComplete_36 at hf
  refine g_iconst C (v := 1) dX9_isComplete_36 rfl ?_
  refine g_goto C 41 dX9_isComplete_37 (by decide) ?_
  exact w_X9_isComplete_41 C  hQ A1 B1 hf
theorem w_X9_isComplete_4 {X : gX} {σ : sg} {x1 : Int32} {x2 : Int32} {r0 : Int32} {r1 : ((Int32 × Int32) ⊕ Int32)} (C : gC X cX9_isComplete 3 RX9 (some .boolean) rm_X9_isComplete)  (hQ : gQ X (qI (XG X) r0 σ)) (A1 : ∀ b, r1 = .inl b → G X 3 σ 4 [(0, .ref (Xd X 157)), (1, .int b.1), (2, .int b.2)] []) (B1 : ∀ b, r1 = .inr b → b = r0) (hf : B_X9_isComplete_4 σ x1 x2 = some r1) : G X 3 σ 4 [(0, .ref (Xd X 157)), (1, .int x1), (2, .int x2)] [] := by
  unfold B_X9_isComplete_4 at hf
  refine g_iload_n C 2 dX9_isComplete_4 rfl ?_
  refine g_aload_n C 0 dX9_isComplete_5 rfl ?_
  refine g_geti C 9 0 (by decide) sh_157 rfl vc_9 (by decide) inXX9 wfl_661 dX9_isComplete_6 ?_
  refine g_icmp_ge C 49 hf dX9_isComplete_9 (by decide) (fun hf => ?_) (fun hf => ?_)
  · refine g_iload_n C 1 dX9_isComplete_49 rfl ?_
    refine g_if hf (fun hf hz => ?_) (fun hf _ => by cases hf)
    have e0 : r0 = x1 := (B1 _ (Option.some.inj hf).symm).symm
    exact g_iret C rfl hQ (by rw [e0]) (g_nz hz) dX9_isComplete_50
  · refine g_iload_n C 1 dX9_isComplete_12 rfl ?_
    refine g_aload_n C 0 dX9_isComplete_13 rfl ?_
    refine g_iload_n C 2 dX9_isComplete_14 rfl ?_
    obtain ⟨v15, h1, hf⟩ := g_bind hf
    refine g_callVi C 1 [.int x2] (c_X9_hasTarget (Xl X) (gC_I C)  h1) ⟨wml_820, wim_822, wsp_16, win_10, wcd_823⟩ (by decide) sh_157 vc_9 rfl hd_X9_hasTarget ⟨rfl, rfl⟩ ⟨Nat.le_of_ble_eq_true rfl, Nat.le_of_ble_eq_true rfl⟩ rfl rfl (Nat.le_of_ble_eq_true rfl) dX9_isComplete_15 ?_
    clear h1
    refine g_if_eq C 36 hf dX9_isComplete_18 (by decide) (fun hf => ?_) (fun hf => ?_)
    · refine g_sub [0, 2] rfl ?_
      exact w_X9_isComplete_36 C  hQ A1 B1 hf
    · refine g_aload_n C 0 dX9_isComplete_21 rfl ?_
      refine g_getr C 9 1 (158) (by decide) sh_157 rfl vc_9 (by decide) inXX9 wfl_662 dX9_isComplete_22 ?_
      refine g_iload_n C 2 dX9_isComplete_25 rfl ?_
      obtain ⟨q26, h1, hf⟩ := g_bind hf
      refine g_aald C h1 dX9_isComplete_26 ?_
      clear h1
      refine g_iconst C (v := 2) dX9_isComplete_27 rfl ?_
      obtain ⟨v28, h1, hf⟩ := g_bind hf
      refine g_iald C h1 dX9_isComplete_28 ?_
      clear h1
      refine g_aload_n C 0 dX9_isComplete_29 rfl ?_
      refine g_geti C 9 0 (by decide) sh_157 rfl vc_9 (by decide) inXX9 wfl_661 dX9_isComplete_30 ?_
      refine g_icmp_ge C 40 hf dX9_isComplete_33 (by decide) (fun hf => ?_) (fun hf => ?_)
      · refine g_iconst C (v := 0) dX9_isComplete_40 rfl ?_
        refine g_sub [0, 2] rfl ?_
        exact w_X9_isComplete_41 C  hQ A1 B1 hf
      · refine g_sub [0, 2] rfl ?_
        exact w_X9_isComplete_36 C  hQ A1 B1 hf
theorem wl_X9_isComplete_4 {X : gX} {σ : sg} {r0 : Int32} (C : gC X cX9_isComplete 3 RX9 (some .boolean) rm_X9_isComplete)  (hQ : gQ X (qI (XG X) r0 σ))  {n : Nat} {a : (Int32 × Int32)} (hf : L_X9_isComplete_4 σ n a = some r0) : G X 3 σ 4 [(0, .ref (Xd X 157)), (1, .int a.1), (2, .int a.2)] [] := by
  unfold L_X9_isComplete_4 at hf
  have key := g_loop_ind (res := r0) (f := fun a => B_X9_isComplete_4 σ a.1 a.2) (P := fun a => G X 3 σ 4 [(0, .ref (Xd X 157)), (1, .int a.1), (2, .int a.2)] []) (fun a r1 h1 k1 k2 => w_X9_isComplete_4 (x1 := a.1) (x2 := a.2) C  hQ  k1 k2 h1)
  exact key n a hf
theorem w_X9_isComplete_e {X : gX} {σ : sg}  {r0 : Int32} (C : gC X cX9_isComplete 3 RX9 (some .boolean) rm_X9_isComplete)  (hQ : gQ X (qI (XG X) r0 σ)) (hf : f_X9_isComplete σ = some r0) : G X 3 σ 0 [(0, .ref (Xd X 157))] [] := by
  unfold f_X9_isComplete at hf
  refine g_iconst C (v := 1) dX9_isComplete_0 rfl ?_
  refine g_istore_n C (lv' := [(1, .int (1 : Int32)), (0, .ref (Xd X 157))]) dX9_isComplete_1 (by decide) rfl ?_
  refine g_iconst C (v := 0) dX9_isComplete_2 rfl ?_
  refine g_istore_n C (lv' := [(2, .int (0 : Int32)), (1, .int (1 : Int32)), (0, .ref (Xd X 157))]) dX9_isComplete_3 (by decide) rfl ?_
  refine g_sub [2, 1, 0] rfl ?_
  exact wl_X9_isComplete_4 (a := ((1 : Int32), (0 : Int32))) C  hQ  hf
theorem c_X9_isComplete (l : Launch) {Gw : gW} (hI : g_I Gw) {σ : sg}  {r : Int32}  (hf : f_X9_isComplete σ = some r) : gM l Gw yX9_isComplete cX9_isComplete 3 (some .boolean) rm_X9_isComplete [.ref (Gw.2.2 157)] σ (qI (Gw) r σ) := by
  refine g_met hI (by decide) (Nat.le_of_ble_eq_true rfl) (fun X h1 h2 C hQ => ?_)
  subst h1; subst h2
  exact w_X9_isComplete_e C  hQ hf
theorem dX9_beginsBlock_0 : decode cX9_beginsBlock 0 = .ok (.iload_n 1, 1) := by decide +kernel
theorem dX9_beginsBlock_1 : decode cX9_beginsBlock 1 = .ok (.ifCond .eq 13, 3) := by decide +kernel
theorem dX9_beginsBlock_4 : decode cX9_beginsBlock 4 = .ok (.aload_n 0, 1) := by decide +kernel
theorem dX9_beginsBlock_5 : decode cX9_beginsBlock 5 = .ok (.iload_n 1, 1) := by decide +kernel
theorem dX9_beginsBlock_6 : decode cX9_beginsBlock 6 = .ok (.iconst 1, 1) := by decide +kernel
theorem dX9_beginsBlock_7 : decode cX9_beginsBlock 7 = .ok (.isub, 1) := by decide +kernel
theorem dX9_beginsBlock_8 : decode cX9_beginsBlock 8 = .ok (.invokevirtual 128, 3) := by decide +kernel
theorem dX9_beginsBlock_11 : decode cX9_beginsBlock 11 = .ok (.ifCond .eq 7, 3) := by decide +kernel
theorem dX9_beginsBlock_14 : decode cX9_beginsBlock 14 = .ok (.iconst 1, 1) := by decide +kernel
theorem dX9_beginsBlock_15 : decode cX9_beginsBlock 15 = .ok (.goto 4, 3) := by decide +kernel
theorem dX9_beginsBlock_18 : decode cX9_beginsBlock 18 = .ok (.iconst 0, 1) := by decide +kernel
theorem dX9_beginsBlock_19 : decode cX9_beginsBlock 19 = .ok (.istore_n 2, 1) := by decide +kernel
theorem dX9_beginsBlock_20 : decode cX9_beginsBlock 20 = .ok (.iconst 0, 1) := by decide +kernel
theorem dX9_beginsBlock_21 : decode cX9_beginsBlock 21 = .ok (.istore_n 3, 1) := by decide +kernel
theorem dX9_beginsBlock_22 : decode cX9_beginsBlock 22 = .ok (.iload_n 3, 1) := by decide +kernel
theorem dX9_beginsBlock_23 : decode cX9_beginsBlock 23 = .ok (.aload_n 0, 1) := by decide +kernel
theorem dX9_beginsBlock_24 : decode cX9_beginsBlock 24 = .ok (.getfield 89, 3) := by decide +kernel
theorem dX9_beginsBlock_27 : decode cX9_beginsBlock 27 = .ok (.if_icmp .ge 37, 3) := by decide +kernel
theorem dX9_beginsBlock_30 : decode cX9_beginsBlock 30 = .ok (.iload_n 2, 1) := by decide +kernel
theorem dX9_beginsBlock_31 : decode cX9_beginsBlock 31 = .ok (.aload_n 0, 1) := by decide +kernel
theorem dX9_beginsBlock_32 : decode cX9_beginsBlock 32 = .ok (.iload_n 3, 1) := by decide +kernel
theorem dX9_beginsBlock_33 : decode cX9_beginsBlock 33 = .ok (.invokevirtual 131, 3) := by decide +kernel
theorem dX9_beginsBlock_36 : decode cX9_beginsBlock 36 = .ok (.ifCond .eq 19, 3) := by decide +kernel
theorem dX9_beginsBlock_39 : decode cX9_beginsBlock 39 = .ok (.aload_n 0, 1) := by decide +kernel
theorem dX9_beginsBlock_40 : decode cX9_beginsBlock 40 = .ok (.getfield 11, 3) := by decide +kernel
theorem dX9_beginsBlock_43 : decode cX9_beginsBlock 43 = .ok (.iload_n 3, 1) := by decide +kernel
theorem dX9_beginsBlock_44 : decode cX9_beginsBlock 44 = .ok (.aaload, 1) := by decide +kernel
theorem dX9_beginsBlock_45 : decode cX9_beginsBlock 45 = .ok (.iconst 2, 1) := by decide +kernel
theorem dX9_beginsBlock_46 : decode cX9_beginsBlock 46 = .ok (.iaload, 1) := by decide +kernel
theorem dX9_beginsBlock_47 : decode cX9_beginsBlock 47 = .ok (.iload_n 1, 1) := by decide +kernel
theorem dX9_beginsBlock_48 : decode cX9_beginsBlock 48 = .ok (.if_icmp .ne 7, 3) := by decide +kernel
theorem dX9_beginsBlock_51 : decode cX9_beginsBlock 51 = .ok (.iconst 1, 1) := by decide +kernel
theorem dX9_beginsBlock_52 : decode cX9_beginsBlock 52 = .ok (.goto 4, 3) := by decide +kernel
theorem dX9_beginsBlock_55 : decode cX9_beginsBlock 55 = .ok (.iconst 0, 1) := by decide +kernel
theorem dX9_beginsBlock_56 : decode cX9_beginsBlock 56 = .ok (.ior, 1) := by decide +kernel
theorem dX9_beginsBlock_57 : decode cX9_beginsBlock 57 = .ok (.istore_n 2, 1) := by decide +kernel
theorem dX9_beginsBlock_58 : decode cX9_beginsBlock 58 = .ok (.iinc 3 1, 3) := by decide +kernel
theorem dX9_beginsBlock_61 : decode cX9_beginsBlock 61 = .ok (.goto (-39), 3) := by decide +kernel
theorem dX9_beginsBlock_64 : decode cX9_beginsBlock 64 = .ok (.iload_n 2, 1) := by decide +kernel
theorem dX9_beginsBlock_65 : decode cX9_beginsBlock 65 = .ok (.ireturn, 1) := by decide +kernel
abbrev rm_X9_beginsBlock : Room := { frames := 2, cells := 0, slots := 0, locals := 42 }
theorem w_X9_beginsBlock_56 {X : gX} {σ : sg} {p1 : Int32} {x3 : Int32} {t0 : Int32} {t1 : Int32} {r0 : Int32} {r1 : ((Int32 × Int32) ⊕ Int32)} (C : gC X cX9_beginsBlock 4 RX9 (some .boolean) rm_X9_beginsBlock)  (hQ : gQ X (qI (XG X) r0 σ)) (A1 : ∀ b, r1 = .inl b → G X 4 σ 22 [(0, .ref (Xd X 157)), (1, .int p1), (2, .int b.1), (3, .int b.2)] []) (B1 : ∀ b, r1 = .inr b → b = r0) (hf : J_X9_beginsBlock_56 σ p1 x3 t0 t1 = some r1) : G X 4 σ 56 [(0, .ref (Xd X 157)), (1, .int p1), (3, .int x3)] [.int t0, .int t1] := by
  unfold J_X9_beginsBlock_56 at hf
  refine g_ior C dX9_beginsBlock_56 ?_
  refine g_istore_n C (lv' := [(2, .int (t1 ||| t0)), (0, .ref (Xd X 157)), (1, .int p1), (3, .int x3)]) dX9_beginsBlock_57 (by decide) rfl ?_
  refine g_iinc C (v := x3 + (1 : Int32)) (lv' := [(3, .int (x3 + (1 : Int32))), (2, .int (t1 ||| t0)), (0, .ref (Xd X 157)), (1, .int p1)]) 3 dX9_beginsBlock_58 rfl rfl (by decide) rfl ?_
  refine g_goto C 22 dX9_beginsBlock_61 (by decide) ?_
  refine g_sub [2, 3, 1, 0] rfl ?_
  exact A1 (t1 ||| t0, x3 + (1 : Int32)) (Option.some.inj hf).symm
theorem w_X9_beginsBlock_55 {X : gX} {σ : sg} {p1 : Int32} {x3 : Int32} {t0 : Int32} {r0 : Int32} {r1 : ((Int32 × Int32) ⊕ Int32)} (C : gC X cX9_beginsBlock 4 RX9 (some .boolean) rm_X9_beginsBlock)  (hQ : gQ X (qI (XG X) r0 σ)) (A1 : ∀ b, r1 = .inl b → G X 4 σ 22 [(0, .ref (Xd X 157)), (1, .int p1), (2, .int b.1), (3, .int b.2)] []) (B1 : ∀ b, r1 = .inr b → b = r0) (hf : J_X9_beginsBlock_55 σ p1 x3 t0 = some r1) : G X 4 σ 55 [(0, .ref (Xd X 157)), (1, .int p1), (3, .int x3)] [.int t0] := by
  unfold J_X9_beginsBlock_55 at hf
  refine g_iconst C (v := 0) dX9_beginsBlock_55 rfl ?_
  exact w_X9_beginsBlock_56 C  hQ A1 B1 hf
theorem w_X9_beginsBlock_22 {X : gX} {σ : sg} {p1 : Int32} {x2 : Int32} {x3 : Int32} {r0 : Int32} {r1 : ((Int32 × Int32) ⊕ Int32)} (C : gC X cX9_beginsBlock 4 RX9 (some .boolean) rm_X9_beginsBlock)  (hQ : gQ X (qI (XG X) r0 σ)) (A1 : ∀ b, r1 = .inl b → G X 4 σ 22 [(0, .ref (Xd X 157)), (1, .int p1), (2, .int b.1), (3, .int b.2)] []) (B1 : ∀ b, r1 = .inr b → b = r0) (hf : B_X9_beginsBlock_22 σ p1 x2 x3 = some r1) : G X 4 σ 22 [(0, .ref (Xd X 157)), (1, .int p1), (2, .int x2), (3, .int x3)] [] := by
  unfold B_X9_beginsBlock_22 at hf
  refine g_iload_n C 3 dX9_beginsBlock_22 rfl ?_
  refine g_aload_n C 0 dX9_beginsBlock_23 rfl ?_
  refine g_geti C 9 0 (by decide) sh_157 rfl vc_9 (by decide) inXX9 wfl_661 dX9_beginsBlock_24 ?_
  refine g_icmp_ge C 64 hf dX9_beginsBlock_27 (by decide) (fun hf => ?_) (fun hf => ?_)
  · refine g_iload_n C 2 dX9_beginsBlock_64 rfl ?_
    refine g_if hf (fun hf hz => ?_) (fun hf _ => by cases hf)
    have e0 : r0 = x2 := (B1 _ (Option.some.inj hf).symm).symm
    exact g_iret C rfl hQ (by rw [e0]) (g_nz hz) dX9_beginsBlock_65
  · refine g_iload_n C 2 dX9_beginsBlock_30 rfl ?_
    refine g_aload_n C 0 dX9_beginsBlock_31 rfl ?_
    refine g_iload_n C 3 dX9_beginsBlock_32 rfl ?_
    obtain ⟨v33, h1, hf⟩ := g_bind hf
    refine g_callVi C 1 [.int x3] (c_X9_hasTarget (Xl X) (gC_I C)  h1) ⟨wml_820, wim_822, wsp_16, win_10, wcd_823⟩ (by decide) sh_157 vc_9 rfl hd_X9_hasTarget ⟨rfl, rfl⟩ ⟨Nat.le_of_ble_eq_true rfl, Nat.le_of_ble_eq_true rfl⟩ rfl rfl (Nat.le_of_ble_eq_true rfl) dX9_beginsBlock_33 ?_
    clear h1
    refine g_if_eq C 55 hf dX9_beginsBlock_36 (by decide) (fun hf => ?_) (fun hf => ?_)
    · refine g_sub [0, 1, 3] rfl ?_
      exact w_X9_beginsBlock_55 C  hQ A1 B1 hf
    · refine g_aload_n C 0 dX9_beginsBlock_39 rfl ?_
      refine g_getr C 9 1 (158) (by decide) sh_157 rfl vc_9 (by decide) inXX9 wfl_662 dX9_beginsBlock_40 ?_
      refine g_iload_n C 3 dX9_beginsBlock_43 rfl ?_
      obtain ⟨q44, h1, hf⟩ := g_bind hf
      refine g_aald C h1 dX9_beginsBlock_44 ?_
      clear h1
      refine g_iconst C (v := 2) dX9_beginsBlock_45 rfl ?_
      obtain ⟨v46, h1, hf⟩ := g_bind hf
      refine g_iald C h1 dX9_beginsBlock_46 ?_
      clear h1
      refine g_iload_n C 1 dX9_beginsBlock_47 rfl ?_
      refine g_icmp_ne C 55 hf dX9_beginsBlock_48 (by decide) (fun hf => ?_) (fun hf => ?_)
      · refine g_iconst C (v := 1) dX9_beginsBlock_51 rfl ?_
        refine g_goto C 56 dX9_beginsBlock_52 (by decide) ?_
        refine g_sub [0, 1, 3] rfl ?_
        exact w_X9_beginsBlock_56 C  hQ A1 B1 hf
      · refine g_sub [0, 1, 3] rfl ?_
        exact w_X9_beginsBlock_55 C  hQ A1 B1 hf
theorem wl_X9_beginsBlock_22 {X : gX} {σ : sg} {p1 : Int32} {r0 : Int32} (C : gC X cX9_beginsBlock 4 RX9 (some .boolean) rm_X9_beginsBlock)  (hQ : gQ X (qI (XG X) r0 σ))  {n : Nat} {a : (Int32 × Int32)} (hf : L_X9_beginsBlock_22 σ p1 n a = some r0) : G X 4 σ 22 [(0, .ref (Xd X 157)), (1, .int p1), (2, .int a.1), (3, .int a.2)] [] := by
  unfold L_X9_beginsBlock_22 at hf
  have key := g_loop_ind (res := r0) (f := fun a => B_X9_beginsBlock_22 σ p1 a.1 a.2) (P := fun a => G X 4 σ 22 [(0, .ref (Xd X 157)), (1, .int p1), (2, .int a.1), (3, .int a.2)] []) (fun a r1 h1 k1 k2 => w_X9_beginsBlock_22 (x2 := a.1) (x3 := a.2) C  hQ  k1 k2 h1)
  exact key n a hf
theorem w_X9_beginsBlock_19 {X : gX} {σ : sg} {p1 : Int32} {t0 : Int32} {r0 : Int32} (C : gC X cX9_beginsBlock 4 RX9 (some .boolean) rm_X9_beginsBlock)  (hQ : gQ X (qI (XG X) r0 σ))  (hf : J_X9_beginsBlock_19 σ p1 t0 = some r0) : G X 4 σ 19 [(0, .ref (Xd X 157)), (1, .int p1)] [.int t0] := by
  unfold J_X9_beginsBlock_19 at hf
  refine g_istore_n C (lv' := [(2, .int t0), (0, .ref (Xd X 157)), (1, .int p1)]) dX9_beginsBlock_19 (by decide) rfl ?_
  refine g_iconst C (v := 0) dX9_beginsBlock_20 rfl ?_
  refine g_istore_n C (lv' := [(3, .int (0 : Int32)), (2, .int t0), (0, .ref (Xd X 157)), (1, .int p1)]) dX9_beginsBlock_21 (by decide) rfl ?_
  refine g_sub [2, 3, 1, 0] rfl ?_
  exact wl_X9_beginsBlock_22 (a := (t0, (0 : Int32))) C  hQ  hf
theorem w_X9_beginsBlock_14 {X : gX} {σ : sg} {p1 : Int32} {r0 : Int32} (C : gC X cX9_beginsBlock 4 RX9 (some .boolean) rm_X9_beginsBlock)  (hQ : gQ X (qI (XG X) r0 σ))  (hf : J_X9_beginsBlock_14 σ p1 = some r0) : G X 4 σ 14 [(0, .ref (Xd X 157)), (1, .int p1)] [] := by
  unfold J_X9_beginsBlock_14 at hf
  refine g_iconst C (v := 1) dX9_beginsBlock_14 rfl ?_
  refine g_goto C 19 dX9_beginsBlock_15 (by decide) ?_
  exact w_X9_beginsBlock_19 C  hQ  hf
theorem w_X9_beginsBlock_e {X : gX} {σ : sg} {p1 : Int32} {r0 : Int32} (C : gC X cX9_beginsBlock 4 RX9 (some .boolean) rm_X9_beginsBlock)  (hQ : gQ X (qI (XG X) r0 σ)) (hf : f_X9_beginsBlock σ p1 = some r0) : G X 4 σ 0 [(0, .ref (Xd X 157)), (1, .int p1)] [] := by
  unfold f_X9_beginsBlock at hf
  refine g_iload_n C 1 dX9_beginsBlock_0 rfl ?_
  refine g_if_eq C 14 hf dX9_beginsBlock_1 (by decide) (fun hf => ?_) (fun hf => ?_)
  · exact w_X9_beginsBlock_14 C  hQ  hf
  · refine g_aload_n C 0 dX9_beginsBlock_4 rfl ?_
    refine g_iload_n C 1 dX9_beginsBlock_5 rfl ?_
    refine g_iconst C (v := 1) dX9_beginsBlock_6 rfl ?_
    refine g_isub C dX9_beginsBlock_7 ?_
    obtain ⟨v8, h1, hf⟩ := g_bind hf
    refine g_callVi C 1 [.int (p1 - (1 : Int32))] (c_X9_isExit (Xl X) (gC_I C)  h1) ⟨wml_836, wim_838, wsp_20, win_10, wcd_839⟩ (by decide) sh_157 vc_9 rfl hd_X9_isExit ⟨rfl, rfl⟩ ⟨Nat.le_of_ble_eq_true rfl, Nat.le_of_ble_eq_true rfl⟩ rfl rfl (Nat.le_of_ble_eq_true rfl) dX9_beginsBlock_8 ?_
    clear h1
    refine g_if_eq C 18 hf dX9_beginsBlock_11 (by decide) (fun hf => ?_) (fun hf => ?_)
    · refine g_iconst C (v := 0) dX9_beginsBlock_18 rfl ?_
      exact w_X9_beginsBlock_19 C  hQ  hf
    · exact w_X9_beginsBlock_14 C  hQ  hf
theorem c_X9_beginsBlock (l : Launch) {Gw : gW} (hI : g_I Gw) {σ : sg} {p1 : Int32} {r : Int32}  (hf : f_X9_beginsBlock σ p1 = some r) : gM l Gw yX9_beginsBlock cX9_beginsBlock 4 (some .boolean) rm_X9_beginsBlock [.ref (Gw.2.2 157), .int p1] σ (qI (Gw) r σ) := by
  refine g_met hI (by decide) (Nat.le_of_ble_eq_true rfl) (fun X h1 h2 C hQ => ?_)
  subst h1; subst h2
  exact w_X9_beginsBlock_e C  hQ hf
theorem dX9_findBlocks_0 : decode cX9_findBlocks 0 = .ok (.aload_n 0, 1) := by decide +kernel
theorem dX9_findBlocks_1 : decode cX9_findBlocks 1 = .ok (.iconst 0, 1) := by decide +kernel
theorem dX9_findBlocks_2 : decode cX9_findBlocks 2 = .ok (.putfield 134, 3) := by decide +kernel
theorem dX9_findBlocks_5 : decode cX9_findBlocks 5 = .ok (.iconst 0, 1) := by decide +kernel
theorem dX9_findBlocks_6 : decode cX9_findBlocks 6 = .ok (.istore_n 1, 1) := by decide +kernel
theorem dX9_findBlocks_7 : decode cX9_findBlocks 7 = .ok (.iload_n 1, 1) := by decide +kernel
theorem dX9_findBlocks_8 : decode cX9_findBlocks 8 = .ok (.aload_n 0, 1) := by decide +kernel
theorem dX9_findBlocks_9 : decode cX9_findBlocks 9 = .ok (.getfield 89, 3) := by decide +kernel
theorem dX9_findBlocks_12 : decode cX9_findBlocks 12 = .ok (.if_icmp .ge 49, 3) := by decide +kernel
theorem dX9_findBlocks_15 : decode cX9_findBlocks 15 = .ok (.aload_n 0, 1) := by decide +kernel
theorem dX9_findBlocks_16 : decode cX9_findBlocks 16 = .ok (.iload_n 1, 1) := by decide +kernel
theorem dX9_findBlocks_17 : decode cX9_findBlocks 17 = .ok (.invokevirtual 137, 3) := by decide +kernel
theorem dX9_findBlocks_20 : decode cX9_findBlocks 20 = .ok (.ifCond .eq 23, 3) := by decide +kernel
theorem dX9_findBlocks_23 : decode cX9_findBlocks 23 = .ok (.aload_n 0, 1) := by decide +kernel
theorem dX9_findBlocks_24 : decode cX9_findBlocks 24 = .ok (.getfield 26, 3) := by decide +kernel
theorem dX9_findBlocks_27 : decode cX9_findBlocks 27 = .ok (.aload_n 0, 1) := by decide +kernel
theorem dX9_findBlocks_28 : decode cX9_findBlocks 28 = .ok (.getfield 134, 3) := by decide +kernel
theorem dX9_findBlocks_31 : decode cX9_findBlocks 31 = .ok (.iload_n 1, 1) := by decide +kernel
theorem dX9_findBlocks_32 : decode cX9_findBlocks 32 = .ok (.iastore, 1) := by decide +kernel
theorem dX9_findBlocks_33 : decode cX9_findBlocks 33 = .ok (.aload_n 0, 1) := by decide +kernel
theorem dX9_findBlocks_34 : decode cX9_findBlocks 34 = .ok (.dup, 1) := by decide +kernel
theorem dX9_findBlocks_35 : decode cX9_findBlocks 35 = .ok (.getfield 134, 3) := by decide +kernel
theorem dX9_findBlocks_38 : decode cX9_findBlocks 38 = .ok (.iconst 1, 1) := by decide +kernel
theorem dX9_findBlocks_39 : decode cX9_findBlocks 39 = .ok (.iadd, 1) := by decide +kernel
theorem dX9_findBlocks_40 : decode cX9_findBlocks 40 = .ok (.putfield 134, 3) := by decide +kernel
theorem dX9_findBlocks_43 : decode cX9_findBlocks 43 = .ok (.aload_n 0, 1) := by decide +kernel
theorem dX9_findBlocks_44 : decode cX9_findBlocks 44 = .ok (.getfield 23, 3) := by decide +kernel
theorem dX9_findBlocks_47 : decode cX9_findBlocks 47 = .ok (.iload_n 1, 1) := by decide +kernel
theorem dX9_findBlocks_48 : decode cX9_findBlocks 48 = .ok (.aload_n 0, 1) := by decide +kernel
theorem dX9_findBlocks_49 : decode cX9_findBlocks 49 = .ok (.getfield 134, 3) := by decide +kernel
theorem dX9_findBlocks_52 : decode cX9_findBlocks 52 = .ok (.iconst 1, 1) := by decide +kernel
theorem dX9_findBlocks_53 : decode cX9_findBlocks 53 = .ok (.isub, 1) := by decide +kernel
theorem dX9_findBlocks_54 : decode cX9_findBlocks 54 = .ok (.iastore, 1) := by decide +kernel
theorem dX9_findBlocks_55 : decode cX9_findBlocks 55 = .ok (.iinc 1 1, 3) := by decide +kernel
theorem dX9_findBlocks_58 : decode cX9_findBlocks 58 = .ok (.goto (-51), 3) := by decide +kernel
theorem dX9_findBlocks_61 : decode cX9_findBlocks 61 = .ok (.aload_n 0, 1) := by decide +kernel
theorem dX9_findBlocks_62 : decode cX9_findBlocks 62 = .ok (.getfield 26, 3) := by decide +kernel
theorem dX9_findBlocks_65 : decode cX9_findBlocks 65 = .ok (.aload_n 0, 1) := by decide +kernel
theorem dX9_findBlocks_66 : decode cX9_findBlocks 66 = .ok (.getfield 134, 3) := by decide +kernel
theorem dX9_findBlocks_69 : decode cX9_findBlocks 69 = .ok (.aload_n 0, 1) := by decide +kernel
theorem dX9_findBlocks_70 : decode cX9_findBlocks 70 = .ok (.getfield 89, 3) := by decide +kernel
theorem dX9_findBlocks_73 : decode cX9_findBlocks 73 = .ok (.iastore, 1) := by decide +kernel
theorem dX9_findBlocks_74 : decode cX9_findBlocks 74 = .ok (.return_, 1) := by decide +kernel
abbrev rm_X9_findBlocks : Room := { frames := 3, cells := 0, slots := 0, locals := 65 }
theorem w_X9_findBlocks_43 {X : gX} {x1 : Int32} {σ : sg} {r0 : sg} {r1 : ((Int32 × sg) ⊕ sg)} (C : gC X cX9_findBlocks 2 RX9 none rm_X9_findBlocks)  (hQ : gQ X (qV (XG X) r0)) (A1 : ∀ b, r1 = .inl b → G X 2 b.2 7 [(0, .ref (Xd X 157)), (1, .int b.1)] []) (B1 : ∀ b, r1 = .inr b → b = r0) (hf : J_X9_findBlocks_43 x1 σ = some r1) : G X 2 σ 43 [(0, .ref (Xd X 157)), (1, .int x1)] [] := by
  unfold J_X9_findBlocks_43 at hf
  refine g_aload_n C 0 dX9_findBlocks_43 rfl ?_
  refine g_getr C 9 5 (611) (by decide) sh_157 rfl vc_9 (by decide) inXX9 wfl_666 dX9_findBlocks_44 ?_
  refine g_iload_n C 1 dX9_findBlocks_47 rfl ?_
  refine g_aload_n C 0 dX9_findBlocks_48 rfl ?_
  refine g_geti C 9 7 (by decide) sh_157 rfl vc_9 (by decide) inXX9 wfl_668 dX9_findBlocks_49 ?_
  refine g_iconst C (v := 1) dX9_findBlocks_52 rfl ?_
  refine g_isub C dX9_findBlocks_53 ?_
  obtain ⟨s54, h1, hf⟩ := g_bind hf
  refine g_iast C h1 dX9_findBlocks_54 ?_
  clear h1
  refine g_iinc C (v := x1 + (1 : Int32)) (lv' := [(1, .int (x1 + (1 : Int32))), (0, .ref (Xd X 157))]) 1 dX9_findBlocks_55 rfl rfl (by decide) rfl ?_
  refine g_goto C 7 dX9_findBlocks_58 (by decide) ?_
  refine g_sub [1, 0] rfl ?_
  exact A1 (x1 + (1 : Int32), s54) (Option.some.inj hf).symm
theorem w_X9_findBlocks_7 {X : gX} {x1 : Int32} {σ : sg} {r0 : sg} {r1 : ((Int32 × sg) ⊕ sg)} (C : gC X cX9_findBlocks 2 RX9 none rm_X9_findBlocks)  (hQ : gQ X (qV (XG X) r0)) (A1 : ∀ b, r1 = .inl b → G X 2 b.2 7 [(0, .ref (Xd X 157)), (1, .int b.1)] []) (B1 : ∀ b, r1 = .inr b → b = r0) (hf : B_X9_findBlocks_7 x1 σ = some r1) : G X 2 σ 7 [(0, .ref (Xd X 157)), (1, .int x1)] [] := by
  unfold B_X9_findBlocks_7 at hf
  refine g_iload_n C 1 dX9_findBlocks_7 rfl ?_
  refine g_aload_n C 0 dX9_findBlocks_8 rfl ?_
  refine g_geti C 9 0 (by decide) sh_157 rfl vc_9 (by decide) inXX9 wfl_661 dX9_findBlocks_9 ?_
  refine g_icmp_ge C 61 hf dX9_findBlocks_12 (by decide) (fun hf => ?_) (fun hf => ?_)
  · refine g_aload_n C 0 dX9_findBlocks_61 rfl ?_
    refine g_getr C 9 6 (612) (by decide) sh_157 rfl vc_9 (by decide) inXX9 wfl_667 dX9_findBlocks_62 ?_
    refine g_aload_n C 0 dX9_findBlocks_65 rfl ?_
    refine g_geti C 9 7 (by decide) sh_157 rfl vc_9 (by decide) inXX9 wfl_668 dX9_findBlocks_66 ?_
    refine g_aload_n C 0 dX9_findBlocks_69 rfl ?_
    refine g_geti C 9 0 (by decide) sh_157 rfl vc_9 (by decide) inXX9 wfl_661 dX9_findBlocks_70 ?_
    obtain ⟨s73, h1, hf⟩ := g_bind hf
    refine g_iast C h1 dX9_findBlocks_73 ?_
    clear h1
    have e0 : r0 = s73 := (B1 _ (Option.some.inj hf).symm).symm
    exact g_vret C rfl hQ (by rw [e0]) dX9_findBlocks_74
  · refine g_aload_n C 0 dX9_findBlocks_15 rfl ?_
    refine g_iload_n C 1 dX9_findBlocks_16 rfl ?_
    obtain ⟨v17, h1, hf⟩ := g_bind hf
    refine g_callVi C 1 [.int x1] (c_X9_beginsBlock (Xl X) (gC_I C)  h1) ⟨wml_832, wim_834, wsp_19, win_10, wcd_835⟩ (by decide) sh_157 vc_9 rfl hd_X9_beginsBlock ⟨rfl, rfl⟩ ⟨Nat.le_of_ble_eq_true rfl, Nat.le_of_ble_eq_true rfl⟩ rfl rfl (Nat.le_of_ble_eq_true rfl) dX9_findBlocks_17 ?_
    clear h1
    refine g_if_eq C 43 hf dX9_findBlocks_20 (by decide) (fun hf => ?_) (fun hf => ?_)
    · exact w_X9_findBlocks_43 C  hQ A1 B1 hf
    · refine g_aload_n C 0 dX9_findBlocks_23 rfl ?_
      refine g_getr C 9 6 (612) (by decide) sh_157 rfl vc_9 (by decide) inXX9 wfl_667 dX9_findBlocks_24 ?_
      refine g_aload_n C 0 dX9_findBlocks_27 rfl ?_
      refine g_geti C 9 7 (by decide) sh_157 rfl vc_9 (by decide) inXX9 wfl_668 dX9_findBlocks_28 ?_
      refine g_iload_n C 1 dX9_findBlocks_31 rfl ?_
      obtain ⟨s32, h1, hf⟩ := g_bind hf
      refine g_iast C h1 dX9_findBlocks_32 ?_
      clear h1
      refine g_aload_n C 0 dX9_findBlocks_33 rfl ?_
      refine g_dup C dX9_findBlocks_34 rfl ?_
      refine g_geti C 9 7 (by decide) sh_157 rfl vc_9 (by decide) inXX9 wfl_668 dX9_findBlocks_35 ?_
      refine g_iconst C (v := 1) dX9_findBlocks_38 rfl ?_
      refine g_iadd C dX9_findBlocks_39 ?_
      obtain ⟨s40, h1, hf⟩ := g_bind hf
      refine g_put C 9 7 (by decide) sh_157 rfl (by decide) vc_9 (by decide) tyX9 tyX9_ok nmX9 inXX9 wfl_668 rfl (ty := .int) (by decide +kernel) rfl rfl dX9_findBlocks_40 ?_
      rw [Option.some.inj h1]
      clear h1
      exact w_X9_findBlocks_43 C  hQ A1 B1 hf
theorem wl_X9_findBlocks_7 {X : gX}  {r0 : sg} (C : gC X cX9_findBlocks 2 RX9 none rm_X9_findBlocks)  (hQ : gQ X (qV (XG X) r0))  {n : Nat} {a : (Int32 × sg)} (hf : L_X9_findBlocks_7  n a = some r0) : G X 2 a.2 7 [(0, .ref (Xd X 157)), (1, .int a.1)] [] := by
  unfold L_X9_findBlocks_7 at hf
  have key := g_loop_ind (res := r0) (f := fun a => B_X9_findBlocks_7 a.1 a.2) (P := fun a => G X 2 a.2 7 [(0, .ref (Xd X 157)), (1, .int a.1)] []) (fun a r1 h1 k1 k2 => w_X9_findBlocks_7 (x1 := a.1) (σ := a.2) C  hQ  k1 k2 h1)
  exact key n a hf
theorem w_X9_findBlocks_e {X : gX} {σ : sg}  {r0 : sg} (C : gC X cX9_findBlocks 2 RX9 none rm_X9_findBlocks)  (hQ : gQ X (qV (XG X) r0)) (hf : f_X9_findBlocks σ = some r0) : G X 2 σ 0 [(0, .ref (Xd X 157))] [] := by
  unfold f_X9_findBlocks at hf
  refine g_aload_n C 0 dX9_findBlocks_0 rfl ?_
  refine g_iconst C (v := 0) dX9_findBlocks_1 rfl ?_
  obtain ⟨s2, h1, hf⟩ := g_bind hf
  refine g_put C 9 7 (by decide) sh_157 rfl (by decide) vc_9 (by decide) tyX9 tyX9_ok nmX9 inXX9 wfl_668 rfl (ty := .int) (by decide +kernel) rfl rfl dX9_findBlocks_2 ?_
  rw [Option.some.inj h1]
  clear h1
  refine g_iconst C (v := 0) dX9_findBlocks_5 rfl ?_
  refine g_istore_n C (lv' := [(1, .int (0 : Int32)), (0, .ref (Xd X 157))]) dX9_findBlocks_6 (by decide) rfl ?_
  refine g_sub [1, 0] rfl ?_
  exact wl_X9_findBlocks_7 (a := ((0 : Int32), s2)) C  hQ  hf
theorem c_X9_findBlocks (l : Launch) {Gw : gW} (hI : g_I Gw) {σ : sg}  {r : sg}  (hf : f_X9_findBlocks σ = some r) : gM l Gw yX9_findBlocks cX9_findBlocks 2 none rm_X9_findBlocks [.ref (Gw.2.2 157)] σ (qV (Gw) r) := by
  refine g_met hI (by decide) (Nat.le_of_ble_eq_true rfl) (fun X h1 h2 C hQ => ?_)
  subst h1; subst h2
  exact w_X9_findBlocks_e C  hQ hf
theorem dX9_blockCount_0 : decode cX9_blockCount 0 = .ok (.aload_n 0, 1) := by decide +kernel
theorem dX9_blockCount_1 : decode cX9_blockCount 1 = .ok (.invokevirtual 140, 3) := by decide +kernel
theorem dX9_blockCount_4 : decode cX9_blockCount 4 = .ok (.ifCond .ne 6, 3) := by decide +kernel
theorem dX9_blockCount_7 : decode cX9_blockCount 7 = .ok (.bipush (-6), 2) := by decide +kernel
theorem dX9_blockCount_9 : decode cX9_blockCount 9 = .ok (.ireturn, 1) := by decide +kernel
theorem dX9_blockCount_10 : decode cX9_blockCount 10 = .ok (.aload_n 0, 1) := by decide +kernel
theorem dX9_blockCount_11 : decode cX9_blockCount 11 = .ok (.invokevirtual 144, 3) := by decide +kernel
theorem dX9_blockCount_14 : decode cX9_blockCount 14 = .ok (.aload_n 0, 1) := by decide +kernel
theorem dX9_blockCount_15 : decode cX9_blockCount 15 = .ok (.getfield 134, 3) := by decide +kernel
theorem dX9_blockCount_18 : decode cX9_blockCount 18 = .ok (.ireturn, 1) := by decide +kernel
abbrev rm_X9_blockCount : Room := { frames := 4, cells := 0, slots := 0, locals := 86 }
theorem w_X9_blockCount_e {X : gX} {σ : sg}  {r0 : (Int32 × sg)} (C : gC X cX9_blockCount 1 RX9 (some .int) rm_X9_blockCount)  (hQ : gQ X (qI (XG X) r0.1 r0.2)) (hf : f_X9_blockCount σ = some r0) : G X 1 σ 0 [(0, .ref (Xd X 157))] [] := by
  unfold f_X9_blockCount at hf
  refine g_aload_n C 0 dX9_blockCount_0 rfl ?_
  obtain ⟨v1, h1, hf⟩ := g_bind hf
  refine g_callVi C 0 [] (c_X9_isComplete (Xl X) (gC_I C)  h1) ⟨wml_816, wim_818, wsp_15, win_10, wcd_819⟩ (by decide) sh_157 vc_9 rfl hd_X9_isComplete ⟨rfl, rfl⟩ ⟨Nat.le_of_ble_eq_true rfl, Nat.le_of_ble_eq_true rfl⟩ rfl rfl (Nat.le_of_ble_eq_true rfl) dX9_blockCount_1 ?_
  clear h1
  refine g_if_ne C 10 hf dX9_blockCount_4 (by decide) (fun hf => ?_) (fun hf => ?_)
  · refine g_bipush C (v := (-6)) dX9_blockCount_7 rfl ?_
    have e0 : r0 = ((-6 : Int32), σ) := (Option.some.inj hf).symm
    exact g_iret C rfl hQ (by rw [e0]) rfl dX9_blockCount_9
  · refine g_aload_n C 0 dX9_blockCount_10 rfl ?_
    obtain ⟨s11, h1, hf⟩ := g_bind hf
    refine g_callVv C 0 [] (c_X9_findBlocks (Xl X) (gC_I C)  h1) ⟨wml_828, wim_830, wsp_18, win_10, wcd_831⟩ (by decide) sh_157 vc_9 rfl hd_X9_findBlocks ⟨rfl, rfl⟩ ⟨Nat.le_of_ble_eq_true rfl, Nat.le_of_ble_eq_true rfl⟩ rfl rfl (Nat.le_of_ble_eq_true rfl) dX9_blockCount_11 ?_
    clear h1
    refine g_aload_n C 0 dX9_blockCount_14 rfl ?_
    refine g_geti C 9 7 (by decide) sh_157 rfl vc_9 (by decide) inXX9 wfl_668 dX9_blockCount_15 ?_
    have e0 : r0 = (s11 157 7, s11) := (Option.some.inj hf).symm
    exact g_iret C rfl hQ (by rw [e0]) rfl dX9_blockCount_18
theorem c_X9_blockCount (l : Launch) {Gw : gW} (hI : g_I Gw) {σ : sg}  {r : (Int32 × sg)}  (hf : f_X9_blockCount σ = some r) : gM l Gw yX9_blockCount cX9_blockCount 1 (some .int) rm_X9_blockCount [.ref (Gw.2.2 157)] σ (qI (Gw) r.1 r.2) := by
  refine g_met hI (by decide) (Nat.le_of_ble_eq_true rfl) (fun X h1 h2 C hQ => ?_)
  subst h1; subst h2
  exact w_X9_blockCount_e C  hQ hf
theorem dX9_blockOf_0 : decode cX9_blockOf 0 = .ok (.aload_n 0, 1) := by decide +kernel
theorem dX9_blockOf_1 : decode cX9_blockOf 1 = .ok (.iload_n 1, 1) := by decide +kernel
theorem dX9_blockOf_2 : decode cX9_blockOf 2 = .ok (.invokevirtual 111, 3) := by decide +kernel
theorem dX9_blockOf_5 : decode cX9_blockOf 5 = .ok (.ifCond .ne 5, 3) := by decide +kernel
theorem dX9_blockOf_8 : decode cX9_blockOf 8 = .ok (.iconst (-1), 1) := by decide +kernel
theorem dX9_blockOf_9 : decode cX9_blockOf 9 = .ok (.ireturn, 1) := by decide +kernel
theorem dX9_blockOf_10 : decode cX9_blockOf 10 = .ok (.aload_n 0, 1) := by decide +kernel
theorem dX9_blockOf_11 : decode cX9_blockOf 11 = .ok (.invokevirtual 140, 3) := by decide +kernel
theorem dX9_blockOf_14 : decode cX9_blockOf 14 = .ok (.ifCond .ne 6, 3) := by decide +kernel
theorem dX9_blockOf_17 : decode cX9_blockOf 17 = .ok (.bipush (-6), 2) := by decide +kernel
theorem dX9_blockOf_19 : decode cX9_blockOf 19 = .ok (.ireturn, 1) := by decide +kernel
theorem dX9_blockOf_20 : decode cX9_blockOf 20 = .ok (.aload_n 0, 1) := by decide +kernel
theorem dX9_blockOf_21 : decode cX9_blockOf 21 = .ok (.invokevirtual 144, 3) := by decide +kernel
theorem dX9_blockOf_24 : decode cX9_blockOf 24 = .ok (.aload_n 0, 1) := by decide +kernel
theorem dX9_blockOf_25 : decode cX9_blockOf 25 = .ok (.getfield 23, 3) := by decide +kernel
theorem dX9_blockOf_28 : decode cX9_blockOf 28 = .ok (.iload_n 1, 1) := by decide +kernel
theorem dX9_blockOf_29 : decode cX9_blockOf 29 = .ok (.iaload, 1) := by decide +kernel
theorem dX9_blockOf_30 : decode cX9_blockOf 30 = .ok (.ireturn, 1) := by decide +kernel
abbrev rm_X9_blockOf : Room := { frames := 4, cells := 0, slots := 0, locals := 86 }
theorem w_X9_blockOf_e {X : gX} {σ : sg} {p1 : Int32} {r0 : (Int32 × sg)} (C : gC X cX9_blockOf 2 RX9 (some .int) rm_X9_blockOf)  (hQ : gQ X (qI (XG X) r0.1 r0.2)) (hf : f_X9_blockOf σ p1 = some r0) : G X 2 σ 0 [(0, .ref (Xd X 157)), (1, .int p1)] [] := by
  unfold f_X9_blockOf at hf
  refine g_aload_n C 0 dX9_blockOf_0 rfl ?_
  refine g_iload_n C 1 dX9_blockOf_1 rfl ?_
  obtain ⟨v2, h1, hf⟩ := g_bind hf
  refine g_callVi C 1 [.int p1] (c_X9_isThere (Xl X) (gC_I C)  h1) ⟨wml_792, wim_794, wsp_14, win_10, wcd_795⟩ (by decide) sh_157 vc_9 rfl hd_X9_isThere ⟨rfl, rfl⟩ ⟨Nat.le_of_ble_eq_true rfl, Nat.le_of_ble_eq_true rfl⟩ rfl rfl (Nat.le_of_ble_eq_true rfl) dX9_blockOf_2 ?_
  clear h1
  refine g_if_ne C 10 hf dX9_blockOf_5 (by decide) (fun hf => ?_) (fun hf => ?_)
  · refine g_iconst C (v := (-1)) dX9_blockOf_8 rfl ?_
    have e0 : r0 = ((-1 : Int32), σ) := (Option.some.inj hf).symm
    exact g_iret C rfl hQ (by rw [e0]) rfl dX9_blockOf_9
  · refine g_aload_n C 0 dX9_blockOf_10 rfl ?_
    obtain ⟨v11, h1, hf⟩ := g_bind hf
    refine g_callVi C 0 [] (c_X9_isComplete (Xl X) (gC_I C)  h1) ⟨wml_816, wim_818, wsp_15, win_10, wcd_819⟩ (by decide) sh_157 vc_9 rfl hd_X9_isComplete ⟨rfl, rfl⟩ ⟨Nat.le_of_ble_eq_true rfl, Nat.le_of_ble_eq_true rfl⟩ rfl rfl (Nat.le_of_ble_eq_true rfl) dX9_blockOf_11 ?_
    clear h1
    refine g_if_ne C 20 hf dX9_blockOf_14 (by decide) (fun hf => ?_) (fun hf => ?_)
    · refine g_bipush C (v := (-6)) dX9_blockOf_17 rfl ?_
      have e0 : r0 = ((-6 : Int32), σ) := (Option.some.inj hf).symm
      exact g_iret C rfl hQ (by rw [e0]) rfl dX9_blockOf_19
    · refine g_aload_n C 0 dX9_blockOf_20 rfl ?_
      obtain ⟨s21, h1, hf⟩ := g_bind hf
      refine g_callVv C 0 [] (c_X9_findBlocks (Xl X) (gC_I C)  h1) ⟨wml_828, wim_830, wsp_18, win_10, wcd_831⟩ (by decide) sh_157 vc_9 rfl hd_X9_findBlocks ⟨rfl, rfl⟩ ⟨Nat.le_of_ble_eq_true rfl, Nat.le_of_ble_eq_true rfl⟩ rfl rfl (Nat.le_of_ble_eq_true rfl) dX9_blockOf_21 ?_
      clear h1
      refine g_aload_n C 0 dX9_blockOf_24 rfl ?_
      refine g_getr C 9 5 (611) (by decide) sh_157 rfl vc_9 (by decide) inXX9 wfl_666 dX9_blockOf_25 ?_
      refine g_iload_n C 1 dX9_blockOf_28 rfl ?_
      obtain ⟨v29, h1, hf⟩ := g_bind hf
      refine g_iald C h1 dX9_blockOf_29 ?_
      clear h1
      have e0 : r0 = (v29, s21) := (Option.some.inj hf).symm
      exact g_iret C rfl hQ (by rw [e0]) rfl dX9_blockOf_30
theorem c_X9_blockOf (l : Launch) {Gw : gW} (hI : g_I Gw) {σ : sg} {p1 : Int32} {r : (Int32 × sg)}  (hf : f_X9_blockOf σ p1 = some r) : gM l Gw yX9_blockOf cX9_blockOf 2 (some .int) rm_X9_blockOf [.ref (Gw.2.2 157), .int p1] σ (qI (Gw) r.1 r.2) := by
  refine g_met hI (by decide) (Nat.le_of_ble_eq_true rfl) (fun X h1 h2 C hQ => ?_)
  subst h1; subst h2
  exact w_X9_blockOf_e C  hQ hf
theorem dX9_blockBegin_0 : decode cX9_blockBegin 0 = .ok (.aload_n 0, 1) := by decide +kernel
theorem dX9_blockBegin_1 : decode cX9_blockBegin 1 = .ok (.invokevirtual 140, 3) := by decide +kernel
theorem dX9_blockBegin_4 : decode cX9_blockBegin 4 = .ok (.ifCond .ne 6, 3) := by decide +kernel
theorem dX9_blockBegin_7 : decode cX9_blockBegin 7 = .ok (.bipush (-6), 2) := by decide +kernel
theorem dX9_blockBegin_9 : decode cX9_blockBegin 9 = .ok (.ireturn, 1) := by decide +kernel
theorem dX9_blockBegin_10 : decode cX9_blockBegin 10 = .ok (.aload_n 0, 1) := by decide +kernel
theorem dX9_blockBegin_11 : decode cX9_blockBegin 11 = .ok (.invokevirtual 144, 3) := by decide +kernel
theorem dX9_blockBegin_14 : decode cX9_blockBegin 14 = .ok (.iload_n 1, 1) := by decide +kernel
theorem dX9_blockBegin_15 : decode cX9_blockBegin 15 = .ok (.iconst 0, 1) := by decide +kernel
theorem dX9_blockBegin_16 : decode cX9_blockBegin 16 = .ok (.aload_n 0, 1) := by decide +kernel
theorem dX9_blockBegin_17 : decode cX9_blockBegin 17 = .ok (.getfield 134, 3) := by decide +kernel
theorem dX9_blockBegin_20 : decode cX9_blockBegin 20 = .ok (.iconst 1, 1) := by decide +kernel
theorem dX9_blockBegin_21 : decode cX9_blockBegin 21 = .ok (.isub, 1) := by decide +kernel
theorem dX9_blockBegin_22 : decode cX9_blockBegin 22 = .ok (.invokestatic 77, 3) := by decide +kernel
theorem dX9_blockBegin_25 : decode cX9_blockBegin 25 = .ok (.ifCond .eq 12, 3) := by decide +kernel
theorem dX9_blockBegin_28 : decode cX9_blockBegin 28 = .ok (.aload_n 0, 1) := by decide +kernel
theorem dX9_blockBegin_29 : decode cX9_blockBegin 29 = .ok (.getfield 26, 3) := by decide +kernel
theorem dX9_blockBegin_32 : decode cX9_blockBegin 32 = .ok (.iload_n 1, 1) := by decide +kernel
theorem dX9_blockBegin_33 : decode cX9_blockBegin 33 = .ok (.iaload, 1) := by decide +kernel
theorem dX9_blockBegin_34 : decode cX9_blockBegin 34 = .ok (.goto 4, 3) := by decide +kernel
theorem dX9_blockBegin_37 : decode cX9_blockBegin 37 = .ok (.iconst (-1), 1) := by decide +kernel
theorem dX9_blockBegin_38 : decode cX9_blockBegin 38 = .ok (.ireturn, 1) := by decide +kernel
abbrev rm_X9_blockBegin : Room := { frames := 4, cells := 0, slots := 0, locals := 86 }
theorem w_X9_blockBegin_e {X : gX} {σ : sg} {p1 : Int32} {r0 : (Int32 × sg)} (C : gC X cX9_blockBegin 2 RX9 (some .int) rm_X9_blockBegin)  (hQ : gQ X (qI (XG X) r0.1 r0.2)) (hf : f_X9_blockBegin σ p1 = some r0) : G X 2 σ 0 [(0, .ref (Xd X 157)), (1, .int p1)] [] := by
  unfold f_X9_blockBegin at hf
  refine g_aload_n C 0 dX9_blockBegin_0 rfl ?_
  obtain ⟨v1, h1, hf⟩ := g_bind hf
  refine g_callVi C 0 [] (c_X9_isComplete (Xl X) (gC_I C)  h1) ⟨wml_816, wim_818, wsp_15, win_10, wcd_819⟩ (by decide) sh_157 vc_9 rfl hd_X9_isComplete ⟨rfl, rfl⟩ ⟨Nat.le_of_ble_eq_true rfl, Nat.le_of_ble_eq_true rfl⟩ rfl rfl (Nat.le_of_ble_eq_true rfl) dX9_blockBegin_1 ?_
  clear h1
  refine g_if_ne C 10 hf dX9_blockBegin_4 (by decide) (fun hf => ?_) (fun hf => ?_)
  · refine g_bipush C (v := (-6)) dX9_blockBegin_7 rfl ?_
    have e0 : r0 = ((-6 : Int32), σ) := (Option.some.inj hf).symm
    exact g_iret C rfl hQ (by rw [e0]) rfl dX9_blockBegin_9
  · refine g_aload_n C 0 dX9_blockBegin_10 rfl ?_
    obtain ⟨s11, h1, hf⟩ := g_bind hf
    refine g_callVv C 0 [] (c_X9_findBlocks (Xl X) (gC_I C)  h1) ⟨wml_828, wim_830, wsp_18, win_10, wcd_831⟩ (by decide) sh_157 vc_9 rfl hd_X9_findBlocks ⟨rfl, rfl⟩ ⟨Nat.le_of_ble_eq_true rfl, Nat.le_of_ble_eq_true rfl⟩ rfl rfl (Nat.le_of_ble_eq_true rfl) dX9_blockBegin_11 ?_
    clear h1
    refine g_iload_n C 1 dX9_blockBegin_14 rfl ?_
    refine g_iconst C (v := 0) dX9_blockBegin_15 rfl ?_
    refine g_aload_n C 0 dX9_blockBegin_16 rfl ?_
    refine g_geti C 9 7 (by decide) sh_157 rfl vc_9 (by decide) inXX9 wfl_668 dX9_blockBegin_17 ?_
    refine g_iconst C (v := 1) dX9_blockBegin_20 rfl ?_
    refine g_isub C dX9_blockBegin_21 ?_
    obtain ⟨v22, h1, hf⟩ := g_bind hf
    refine g_callSi C 3 [.int p1, .int (0 : Int32), .int ((s11 157 7) - (1 : Int32))] (c_X9_isBetween (Xl X) (gC_I C)  h1) ⟨wml_771, wst_772, win_10, wcd_773⟩ hd_X9_isBetween ⟨rfl, rfl⟩ ⟨Nat.le_of_ble_eq_true rfl, Nat.le_of_ble_eq_true rfl⟩ rfl rfl (Nat.le_of_ble_eq_true rfl) dX9_blockBegin_22 ?_
    clear h1
    refine g_if_eq C 37 hf dX9_blockBegin_25 (by decide) (fun hf => ?_) (fun hf => ?_)
    · refine g_iconst C (v := (-1)) dX9_blockBegin_37 rfl ?_
      have e0 : r0 = ((-1 : Int32), s11) := (Option.some.inj hf).symm
      exact g_iret C rfl hQ (by rw [e0]) rfl dX9_blockBegin_38
    · refine g_aload_n C 0 dX9_blockBegin_28 rfl ?_
      refine g_getr C 9 6 (612) (by decide) sh_157 rfl vc_9 (by decide) inXX9 wfl_667 dX9_blockBegin_29 ?_
      refine g_iload_n C 1 dX9_blockBegin_32 rfl ?_
      obtain ⟨v33, h1, hf⟩ := g_bind hf
      refine g_iald C h1 dX9_blockBegin_33 ?_
      clear h1
      refine g_goto C 38 dX9_blockBegin_34 (by decide) ?_
      have e0 : r0 = (v33, s11) := (Option.some.inj hf).symm
      exact g_iret C rfl hQ (by rw [e0]) rfl dX9_blockBegin_38
theorem c_X9_blockBegin (l : Launch) {Gw : gW} (hI : g_I Gw) {σ : sg} {p1 : Int32} {r : (Int32 × sg)}  (hf : f_X9_blockBegin σ p1 = some r) : gM l Gw yX9_blockBegin cX9_blockBegin 2 (some .int) rm_X9_blockBegin [.ref (Gw.2.2 157), .int p1] σ (qI (Gw) r.1 r.2) := by
  refine g_met hI (by decide) (Nat.le_of_ble_eq_true rfl) (fun X h1 h2 C hQ => ?_)
  subst h1; subst h2
  exact w_X9_blockBegin_e C  hQ hf
theorem dX9_distance_0 : decode cX9_distance 0 = .ok (.aload_n 0, 1) := by decide +kernel
theorem dX9_distance_1 : decode cX9_distance 1 = .ok (.iload_n 1, 1) := by decide +kernel
theorem dX9_distance_2 : decode cX9_distance 2 = .ok (.invokevirtual 111, 3) := by decide +kernel
theorem dX9_distance_5 : decode cX9_distance 5 = .ok (.ifCond .eq 11, 3) := by decide +kernel
theorem dX9_distance_8 : decode cX9_distance 8 = .ok (.aload_n 0, 1) := by decide +kernel
theorem dX9_distance_9 : decode cX9_distance 9 = .ok (.iload_n 2, 1) := by decide +kernel
theorem dX9_distance_10 : decode cX9_distance 10 = .ok (.invokevirtual 111, 3) := by decide +kernel
theorem dX9_distance_13 : decode cX9_distance 13 = .ok (.ifCond .ne 5, 3) := by decide +kernel
theorem dX9_distance_16 : decode cX9_distance 16 = .ok (.iconst (-1), 1) := by decide +kernel
theorem dX9_distance_17 : decode cX9_distance 17 = .ok (.ireturn, 1) := by decide +kernel
theorem dX9_distance_18 : decode cX9_distance 18 = .ok (.aload_n 0, 1) := by decide +kernel
theorem dX9_distance_19 : decode cX9_distance 19 = .ok (.invokevirtual 140, 3) := by decide +kernel
theorem dX9_distance_22 : decode cX9_distance 22 = .ok (.ifCond .ne 6, 3) := by decide +kernel
theorem dX9_distance_25 : decode cX9_distance 25 = .ok (.bipush (-6), 2) := by decide +kernel
theorem dX9_distance_27 : decode cX9_distance 27 = .ok (.ireturn, 1) := by decide +kernel
theorem dX9_distance_28 : decode cX9_distance 28 = .ok (.aload_n 0, 1) := by decide +kernel
theorem dX9_distance_29 : decode cX9_distance 29 = .ok (.invokevirtual 144, 3) := by decide +kernel
theorem dX9_distance_32 : decode cX9_distance 32 = .ok (.iload_n 2, 1) := by decide +kernel
theorem dX9_distance_33 : decode cX9_distance 33 = .ok (.iload_n 1, 1) := by decide +kernel
theorem dX9_distance_34 : decode cX9_distance 34 = .ok (.if_icmp .le 18, 3) := by decide +kernel
theorem dX9_distance_37 : decode cX9_distance 37 = .ok (.aload_n 0, 1) := by decide +kernel
theorem dX9_distance_38 : decode cX9_distance 38 = .ok (.getfield 23, 3) := by decide +kernel
theorem dX9_distance_41 : decode cX9_distance 41 = .ok (.iload_n 1, 1) := by decide +kernel
theorem dX9_distance_42 : decode cX9_distance 42 = .ok (.iaload, 1) := by decide +kernel
theorem dX9_distance_43 : decode cX9_distance 43 = .ok (.aload_n 0, 1) := by decide +kernel
theorem dX9_distance_44 : decode cX9_distance 44 = .ok (.getfield 23, 3) := by decide +kernel
theorem dX9_distance_47 : decode cX9_distance 47 = .ok (.iload_n 2, 1) := by decide +kernel
theorem dX9_distance_48 : decode cX9_distance 48 = .ok (.iaload, 1) := by decide +kernel
theorem dX9_distance_49 : decode cX9_distance 49 = .ok (.if_icmp .eq 8, 3) := by decide +kernel
theorem dX9_distance_52 : decode cX9_distance 52 = .ok (.bipush (-2), 2) := by decide +kernel
theorem dX9_distance_54 : decode cX9_distance 54 = .ok (.goto 9, 3) := by decide +kernel
theorem dX9_distance_57 : decode cX9_distance 57 = .ok (.aload_n 0, 1) := by decide +kernel
theorem dX9_distance_58 : decode cX9_distance 58 = .ok (.iload_n 1, 1) := by decide +kernel
theorem dX9_distance_59 : decode cX9_distance 59 = .ok (.iload_n 2, 1) := by decide +kernel
theorem dX9_distance_60 : decode cX9_distance 60 = .ok (.invokevirtual 147, 3) := by decide +kernel
theorem dX9_distance_63 : decode cX9_distance 63 = .ok (.ireturn, 1) := by decide +kernel
abbrev rm_X9_distance : Room := { frames := 4, cells := 0, slots := 0, locals := 86 }
theorem w_X9_distance_52 {X : gX} {σ : sg} {r0 : (Int32 × sg)} (C : gC X cX9_distance 3 RX9 (some .int) rm_X9_distance)  (hQ : gQ X (qI (XG X) r0.1 r0.2))  (hf : J_X9_distance_52 σ = some r0) : G X 3 σ 52 [] [] := by
  unfold J_X9_distance_52 at hf
  refine g_bipush C (v := (-2)) dX9_distance_52 rfl ?_
  refine g_goto C 63 dX9_distance_54 (by decide) ?_
  have e0 : r0 = ((-2 : Int32), σ) := (Option.some.inj hf).symm
  exact g_iret C rfl hQ (by rw [e0]) rfl dX9_distance_63
theorem w_X9_distance_e {X : gX} {σ : sg} {p1 : Int32} {p2 : Int32} {r0 : (Int32 × sg)} (C : gC X cX9_distance 3 RX9 (some .int) rm_X9_distance)  (hQ : gQ X (qI (XG X) r0.1 r0.2)) (hf : f_X9_distance σ p1 p2 = some r0) : G X 3 σ 0 [(0, .ref (Xd X 157)), (1, .int p1), (2, .int p2)] [] := by
  unfold f_X9_distance at hf
  refine g_aload_n C 0 dX9_distance_0 rfl ?_
  refine g_iload_n C 1 dX9_distance_1 rfl ?_
  obtain ⟨v2, h1, hf⟩ := g_bind hf
  refine g_callVi C 1 [.int p1] (c_X9_isThere (Xl X) (gC_I C)  h1) ⟨wml_792, wim_794, wsp_14, win_10, wcd_795⟩ (by decide) sh_157 vc_9 rfl hd_X9_isThere ⟨rfl, rfl⟩ ⟨Nat.le_of_ble_eq_true rfl, Nat.le_of_ble_eq_true rfl⟩ rfl rfl (Nat.le_of_ble_eq_true rfl) dX9_distance_2 ?_
  clear h1
  refine g_if_eq C 16 hf dX9_distance_5 (by decide) (fun hf => ?_) (fun hf => ?_)
  · refine g_iconst C (v := (-1)) dX9_distance_16 rfl ?_
    have e0 : r0 = ((-1 : Int32), σ) := (Option.some.inj hf).symm
    exact g_iret C rfl hQ (by rw [e0]) rfl dX9_distance_17
  · refine g_aload_n C 0 dX9_distance_8 rfl ?_
    refine g_iload_n C 2 dX9_distance_9 rfl ?_
    obtain ⟨v10, h1, hf⟩ := g_bind hf
    refine g_callVi C 1 [.int p2] (c_X9_isThere (Xl X) (gC_I C)  h1) ⟨wml_792, wim_794, wsp_14, win_10, wcd_795⟩ (by decide) sh_157 vc_9 rfl hd_X9_isThere ⟨rfl, rfl⟩ ⟨Nat.le_of_ble_eq_true rfl, Nat.le_of_ble_eq_true rfl⟩ rfl rfl (Nat.le_of_ble_eq_true rfl) dX9_distance_10 ?_
    clear h1
    refine g_if_ne C 18 hf dX9_distance_13 (by decide) (fun hf => ?_) (fun hf => ?_)
    · refine g_iconst C (v := (-1)) dX9_distance_16 rfl ?_
      have e0 : r0 = ((-1 : Int32), σ) := (Option.some.inj hf).symm
      exact g_iret C rfl hQ (by rw [e0]) rfl dX9_distance_17
    · refine g_aload_n C 0 dX9_distance_18 rfl ?_
      obtain ⟨v19, h1, hf⟩ := g_bind hf
      refine g_callVi C 0 [] (c_X9_isComplete (Xl X) (gC_I C)  h1) ⟨wml_816, wim_818, wsp_15, win_10, wcd_819⟩ (by decide) sh_157 vc_9 rfl hd_X9_isComplete ⟨rfl, rfl⟩ ⟨Nat.le_of_ble_eq_true rfl, Nat.le_of_ble_eq_true rfl⟩ rfl rfl (Nat.le_of_ble_eq_true rfl) dX9_distance_19 ?_
      clear h1
      refine g_if_ne C 28 hf dX9_distance_22 (by decide) (fun hf => ?_) (fun hf => ?_)
      · refine g_bipush C (v := (-6)) dX9_distance_25 rfl ?_
        have e0 : r0 = ((-6 : Int32), σ) := (Option.some.inj hf).symm
        exact g_iret C rfl hQ (by rw [e0]) rfl dX9_distance_27
      · refine g_aload_n C 0 dX9_distance_28 rfl ?_
        obtain ⟨s29, h1, hf⟩ := g_bind hf
        refine g_callVv C 0 [] (c_X9_findBlocks (Xl X) (gC_I C)  h1) ⟨wml_828, wim_830, wsp_18, win_10, wcd_831⟩ (by decide) sh_157 vc_9 rfl hd_X9_findBlocks ⟨rfl, rfl⟩ ⟨Nat.le_of_ble_eq_true rfl, Nat.le_of_ble_eq_true rfl⟩ rfl rfl (Nat.le_of_ble_eq_true rfl) dX9_distance_29 ?_
        clear h1
        refine g_iload_n C 2 dX9_distance_32 rfl ?_
        refine g_iload_n C 1 dX9_distance_33 rfl ?_
        refine g_icmp_le C 52 hf dX9_distance_34 (by decide) (fun hf => ?_) (fun hf => ?_)
        · refine g_sub [] rfl ?_
          exact w_X9_distance_52 C  hQ  hf
        · refine g_aload_n C 0 dX9_distance_37 rfl ?_
          refine g_getr C 9 5 (611) (by decide) sh_157 rfl vc_9 (by decide) inXX9 wfl_666 dX9_distance_38 ?_
          refine g_iload_n C 1 dX9_distance_41 rfl ?_
          obtain ⟨v42, h1, hf⟩ := g_bind hf
          refine g_iald C h1 dX9_distance_42 ?_
          clear h1
          refine g_aload_n C 0 dX9_distance_43 rfl ?_
          refine g_getr C 9 5 (611) (by decide) sh_157 rfl vc_9 (by decide) inXX9 wfl_666 dX9_distance_44 ?_
          refine g_iload_n C 2 dX9_distance_47 rfl ?_
          obtain ⟨v48, h1, hf⟩ := g_bind hf
          refine g_iald C h1 dX9_distance_48 ?_
          clear h1
          refine g_icmp_eq C 57 hf dX9_distance_49 (by decide) (fun hf => ?_) (fun hf => ?_)
          · refine g_aload_n C 0 dX9_distance_57 rfl ?_
            refine g_iload_n C 1 dX9_distance_58 rfl ?_
            refine g_iload_n C 2 dX9_distance_59 rfl ?_
            obtain ⟨v60, h1, hf⟩ := g_bind hf
            refine g_callVi C 2 [.int p1, .int p2] (c_X9_distanceOf (Xl X) (gC_I C)  h1) ⟨wml_852, wim_854, wsp_21, win_10, wcd_855⟩ (by decide) sh_157 vc_9 rfl hd_X9_distanceOf ⟨rfl, rfl⟩ ⟨Nat.le_of_ble_eq_true rfl, Nat.le_of_ble_eq_true rfl⟩ rfl rfl (Nat.le_of_ble_eq_true rfl) dX9_distance_60 ?_
            clear h1
            have e0 : r0 = (v60, s29) := (Option.some.inj hf).symm
            exact g_iret C rfl hQ (by rw [e0]) rfl dX9_distance_63
          · refine g_sub [] rfl ?_
            exact w_X9_distance_52 C  hQ  hf
theorem c_X9_distance (l : Launch) {Gw : gW} (hI : g_I Gw) {σ : sg} {p1 : Int32} {p2 : Int32} {r : (Int32 × sg)}  (hf : f_X9_distance σ p1 p2 = some r) : gM l Gw yX9_distance cX9_distance 3 (some .int) rm_X9_distance [.ref (Gw.2.2 157), .int p1, .int p2] σ (qI (Gw) r.1 r.2) := by
  refine g_met hI (by decide) (Nat.le_of_ble_eq_true rfl) (fun X h1 h2 C hQ => ?_)
  subst h1; subst h2
  exact w_X9_distance_e C  hQ hf
theorem dX9_isType_0 : decode cX9_isType 0 = .ok (.iload_n 0, 1) := by decide +kernel
theorem dX9_isType_1 : decode cX9_isType 1 = .ok (.iconst 0, 1) := by decide +kernel
theorem dX9_isType_2 : decode cX9_isType 2 = .ok (.iconst 3, 1) := by decide +kernel
theorem dX9_isType_3 : decode cX9_isType 3 = .ok (.invokestatic 77, 3) := by decide +kernel
theorem dX9_isType_6 : decode cX9_isType 6 = .ok (.ireturn, 1) := by decide +kernel
abbrev rm_X9_isType : Room := { frames := 1, cells := 0, slots := 0, locals := 22 }
theorem w_X9_isType_e {X : gX} {σ : sg} {p0 : Int32} {r0 : Int32} (C : gC X cX9_isType 1 RX9 (some .boolean) rm_X9_isType)  (hQ : gQ X (qI (XG X) r0 σ)) (hf : f_X9_isType σ p0 = some r0) : G X 1 σ 0 [(0, .int p0)] [] := by
  unfold f_X9_isType at hf
  refine g_iload_n C 0 dX9_isType_0 rfl ?_
  refine g_iconst C (v := 0) dX9_isType_1 rfl ?_
  refine g_iconst C (v := 3) dX9_isType_2 rfl ?_
  obtain ⟨v3, h1, hf⟩ := g_bind hf
  refine g_callSi C 3 [.int p0, .int (0 : Int32), .int (3 : Int32)] (c_X9_isBetween (Xl X) (gC_I C)  h1) ⟨wml_771, wst_772, win_10, wcd_773⟩ hd_X9_isBetween ⟨rfl, rfl⟩ ⟨Nat.le_of_ble_eq_true rfl, Nat.le_of_ble_eq_true rfl⟩ rfl rfl (Nat.le_of_ble_eq_true rfl) dX9_isType_3 ?_
  clear h1
  refine g_if hf (fun hf hz => ?_) (fun hf _ => by cases hf)
  have e0 : r0 = v3 := (Option.some.inj hf).symm
  exact g_iret C rfl hQ (by rw [e0]) (g_nz hz) dX9_isType_6
theorem c_X9_isType (l : Launch) {Gw : gW} (hI : g_I Gw) {σ : sg} {p0 : Int32} {r : Int32}  (hf : f_X9_isType σ p0 = some r) : gM l Gw yX9_isType cX9_isType 1 (some .boolean) rm_X9_isType [.int p0] σ (qI (Gw) r σ) := by
  refine g_met hI (by decide) (Nat.le_of_ble_eq_true rfl) (fun X h1 h2 C hQ => ?_)
  subst h1; subst h2
  exact w_X9_isType_e C  hQ hf
theorem dX9_addTemplate_0 : decode cX9_addTemplate 0 = .ok (.iload_n 1, 1) := by decide +kernel
theorem dX9_addTemplate_1 : decode cX9_addTemplate 1 = .ok (.invokestatic 151, 3) := by decide +kernel
theorem dX9_addTemplate_4 : decode cX9_addTemplate 4 = .ok (.ifCond .eq 28, 3) := by decide +kernel
theorem dX9_addTemplate_7 : decode cX9_addTemplate 7 = .ok (.iload_n 2, 1) := by decide +kernel
theorem dX9_addTemplate_8 : decode cX9_addTemplate 8 = .ok (.invokestatic 151, 3) := by decide +kernel
theorem dX9_addTemplate_11 : decode cX9_addTemplate 11 = .ok (.ifCond .eq 21, 3) := by decide +kernel
theorem dX9_addTemplate_14 : decode cX9_addTemplate 14 = .ok (.iload_n 3, 1) := by decide +kernel
theorem dX9_addTemplate_15 : decode cX9_addTemplate 15 = .ok (.invokestatic 151, 3) := by decide +kernel
theorem dX9_addTemplate_18 : decode cX9_addTemplate 18 = .ok (.ifCond .eq 14, 3) := by decide +kernel
theorem dX9_addTemplate_21 : decode cX9_addTemplate 21 = .ok (.iload 4, 2) := by decide +kernel
theorem dX9_addTemplate_23 : decode cX9_addTemplate 23 = .ok (.iconst 0, 1) := by decide +kernel
theorem dX9_addTemplate_24 : decode cX9_addTemplate 24 = .ok (.bipush 7, 2) := by decide +kernel
theorem dX9_addTemplate_26 : decode cX9_addTemplate 26 = .ok (.invokestatic 77, 3) := by decide +kernel
theorem dX9_addTemplate_29 : decode cX9_addTemplate 29 = .ok (.ifCond .ne 6, 3) := by decide +kernel
theorem dX9_addTemplate_32 : decode cX9_addTemplate 32 = .ok (.bipush (-2), 2) := by decide +kernel
theorem dX9_addTemplate_34 : decode cX9_addTemplate 34 = .ok (.ireturn, 1) := by decide +kernel
theorem dX9_addTemplate_35 : decode cX9_addTemplate 35 = .ok (.aload_n 0, 1) := by decide +kernel
theorem dX9_addTemplate_36 : decode cX9_addTemplate 36 = .ok (.getfield 100, 3) := by decide +kernel
theorem dX9_addTemplate_39 : decode cX9_addTemplate 39 = .ok (.ifCond .eq 6, 3) := by decide +kernel
theorem dX9_addTemplate_42 : decode cX9_addTemplate 42 = .ok (.bipush (-5), 2) := by decide +kernel
theorem dX9_addTemplate_44 : decode cX9_addTemplate 44 = .ok (.ireturn, 1) := by decide +kernel
theorem dX9_addTemplate_45 : decode cX9_addTemplate 45 = .ok (.aload_n 0, 1) := by decide +kernel
theorem dX9_addTemplate_46 : decode cX9_addTemplate 46 = .ok (.getfield 154, 3) := by decide +kernel
theorem dX9_addTemplate_49 : decode cX9_addTemplate 49 = .ok (.bipush 8, 2) := by decide +kernel
theorem dX9_addTemplate_51 : decode cX9_addTemplate 51 = .ok (.if_icmp .ne 6, 3) := by decide +kernel
theorem dX9_addTemplate_54 : decode cX9_addTemplate 54 = .ok (.bipush (-3), 2) := by decide +kernel
theorem dX9_addTemplate_56 : decode cX9_addTemplate 56 = .ok (.ireturn, 1) := by decide +kernel
theorem dX9_addTemplate_57 : decode cX9_addTemplate 57 = .ok (.aload_n 0, 1) := by decide +kernel
theorem dX9_addTemplate_58 : decode cX9_addTemplate 58 = .ok (.getfield 29, 3) := by decide +kernel
theorem dX9_addTemplate_61 : decode cX9_addTemplate 61 = .ok (.aload_n 0, 1) := by decide +kernel
theorem dX9_addTemplate_62 : decode cX9_addTemplate 62 = .ok (.getfield 154, 3) := by decide +kernel
theorem dX9_addTemplate_65 : decode cX9_addTemplate 65 = .ok (.aaload, 1) := by decide +kernel
theorem dX9_addTemplate_66 : decode cX9_addTemplate 66 = .ok (.iconst 0, 1) := by decide +kernel
theorem dX9_addTemplate_67 : decode cX9_addTemplate 67 = .ok (.iload_n 1, 1) := by decide +kernel
theorem dX9_addTemplate_68 : decode cX9_addTemplate 68 = .ok (.iastore, 1) := by decide +kernel
theorem dX9_addTemplate_69 : decode cX9_addTemplate 69 = .ok (.aload_n 0, 1) := by decide +kernel
theorem dX9_addTemplate_70 : decode cX9_addTemplate 70 = .ok (.getfield 29, 3) := by decide +kernel
theorem dX9_addTemplate_73 : decode cX9_addTemplate 73 = .ok (.aload_n 0, 1) := by decide +kernel
theorem dX9_addTemplate_74 : decode cX9_addTemplate 74 = .ok (.getfield 154, 3) := by decide +kernel
theorem dX9_addTemplate_77 : decode cX9_addTemplate 77 = .ok (.aaload, 1) := by decide +kernel
theorem dX9_addTemplate_78 : decode cX9_addTemplate 78 = .ok (.iconst 1, 1) := by decide +kernel
theorem dX9_addTemplate_79 : decode cX9_addTemplate 79 = .ok (.iload_n 2, 1) := by decide +kernel
theorem dX9_addTemplate_80 : decode cX9_addTemplate 80 = .ok (.iastore, 1) := by decide +kernel
theorem dX9_addTemplate_81 : decode cX9_addTemplate 81 = .ok (.aload_n 0, 1) := by decide +kernel
theorem dX9_addTemplate_82 : decode cX9_addTemplate 82 = .ok (.getfield 29, 3) := by decide +kernel
theorem dX9_addTemplate_85 : decode cX9_addTemplate 85 = .ok (.aload_n 0, 1) := by decide +kernel
theorem dX9_addTemplate_86 : decode cX9_addTemplate 86 = .ok (.getfield 154, 3) := by decide +kernel
theorem dX9_addTemplate_89 : decode cX9_addTemplate 89 = .ok (.aaload, 1) := by decide +kernel
theorem dX9_addTemplate_90 : decode cX9_addTemplate 90 = .ok (.iconst 2, 1) := by decide +kernel
theorem dX9_addTemplate_91 : decode cX9_addTemplate 91 = .ok (.iload_n 3, 1) := by decide +kernel
theorem dX9_addTemplate_92 : decode cX9_addTemplate 92 = .ok (.iastore, 1) := by decide +kernel
theorem dX9_addTemplate_93 : decode cX9_addTemplate 93 = .ok (.aload_n 0, 1) := by decide +kernel
theorem dX9_addTemplate_94 : decode cX9_addTemplate 94 = .ok (.getfield 32, 3) := by decide +kernel
theorem dX9_addTemplate_97 : decode cX9_addTemplate 97 = .ok (.aload_n 0, 1) := by decide +kernel
theorem dX9_addTemplate_98 : decode cX9_addTemplate 98 = .ok (.getfield 154, 3) := by decide +kernel
theorem dX9_addTemplate_101 : decode cX9_addTemplate 101 = .ok (.iload 4, 2) := by decide +kernel
theorem dX9_addTemplate_103 : decode cX9_addTemplate 103 = .ok (.iastore, 1) := by decide +kernel
theorem dX9_addTemplate_104 : decode cX9_addTemplate 104 = .ok (.aload_n 0, 1) := by decide +kernel
theorem dX9_addTemplate_105 : decode cX9_addTemplate 105 = .ok (.dup, 1) := by decide +kernel
theorem dX9_addTemplate_106 : decode cX9_addTemplate 106 = .ok (.getfield 154, 3) := by decide +kernel
theorem dX9_addTemplate_109 : decode cX9_addTemplate 109 = .ok (.iconst 1, 1) := by decide +kernel
theorem dX9_addTemplate_110 : decode cX9_addTemplate 110 = .ok (.iadd, 1) := by decide +kernel
theorem dX9_addTemplate_111 : decode cX9_addTemplate 111 = .ok (.putfield 154, 3) := by decide +kernel
theorem dX9_addTemplate_114 : decode cX9_addTemplate 114 = .ok (.aload_n 0, 1) := by decide +kernel
theorem dX9_addTemplate_115 : decode cX9_addTemplate 115 = .ok (.getfield 154, 3) := by decide +kernel
theorem dX9_addTemplate_118 : decode cX9_addTemplate 118 = .ok (.iconst 1, 1) := by decide +kernel
theorem dX9_addTemplate_119 : decode cX9_addTemplate 119 = .ok (.isub, 1) := by decide +kernel
theorem dX9_addTemplate_120 : decode cX9_addTemplate 120 = .ok (.ireturn, 1) := by decide +kernel
abbrev rm_X9_addTemplate : Room := { frames := 2, cells := 0, slots := 0, locals := 42 }
theorem w_X9_addTemplate_e {X : gX} {σ : sg} {p1 : Int32} {p2 : Int32} {p3 : Int32} {p4 : Int32} {r0 : (Int32 × sg)} (C : gC X cX9_addTemplate 5 RX9 (some .int) rm_X9_addTemplate)  (hQ : gQ X (qI (XG X) r0.1 r0.2)) (hf : f_X9_addTemplate σ p1 p2 p3 p4 = some r0) : G X 5 σ 0 [(0, .ref (Xd X 157)), (1, .int p1), (2, .int p2), (3, .int p3), (4, .int p4)] [] := by
  unfold f_X9_addTemplate at hf
  refine g_iload_n C 1 dX9_addTemplate_0 rfl ?_
  obtain ⟨v1, h1, hf⟩ := g_bind hf
  refine g_callSi C 1 [.int p1] (c_X9_isType (Xl X) (gC_I C)  h1) ⟨wml_872, wst_873, win_10, wcd_874⟩ hd_X9_isType ⟨rfl, rfl⟩ ⟨Nat.le_of_ble_eq_true rfl, Nat.le_of_ble_eq_true rfl⟩ rfl rfl (Nat.le_of_ble_eq_true rfl) dX9_addTemplate_1 ?_
  clear h1
  refine g_if_eq C 32 hf dX9_addTemplate_4 (by decide) (fun hf => ?_) (fun hf => ?_)
  · refine g_bipush C (v := (-2)) dX9_addTemplate_32 rfl ?_
    have e0 : r0 = ((-2 : Int32), σ) := (Option.some.inj hf).symm
    exact g_iret C rfl hQ (by rw [e0]) rfl dX9_addTemplate_34
  · refine g_iload_n C 2 dX9_addTemplate_7 rfl ?_
    obtain ⟨v8, h1, hf⟩ := g_bind hf
    refine g_callSi C 1 [.int p2] (c_X9_isType (Xl X) (gC_I C)  h1) ⟨wml_872, wst_873, win_10, wcd_874⟩ hd_X9_isType ⟨rfl, rfl⟩ ⟨Nat.le_of_ble_eq_true rfl, Nat.le_of_ble_eq_true rfl⟩ rfl rfl (Nat.le_of_ble_eq_true rfl) dX9_addTemplate_8 ?_
    clear h1
    refine g_if_eq C 32 hf dX9_addTemplate_11 (by decide) (fun hf => ?_) (fun hf => ?_)
    · refine g_bipush C (v := (-2)) dX9_addTemplate_32 rfl ?_
      have e0 : r0 = ((-2 : Int32), σ) := (Option.some.inj hf).symm
      exact g_iret C rfl hQ (by rw [e0]) rfl dX9_addTemplate_34
    · refine g_iload_n C 3 dX9_addTemplate_14 rfl ?_
      obtain ⟨v15, h1, hf⟩ := g_bind hf
      refine g_callSi C 1 [.int p3] (c_X9_isType (Xl X) (gC_I C)  h1) ⟨wml_872, wst_873, win_10, wcd_874⟩ hd_X9_isType ⟨rfl, rfl⟩ ⟨Nat.le_of_ble_eq_true rfl, Nat.le_of_ble_eq_true rfl⟩ rfl rfl (Nat.le_of_ble_eq_true rfl) dX9_addTemplate_15 ?_
      clear h1
      refine g_if_eq C 32 hf dX9_addTemplate_18 (by decide) (fun hf => ?_) (fun hf => ?_)
      · refine g_bipush C (v := (-2)) dX9_addTemplate_32 rfl ?_
        have e0 : r0 = ((-2 : Int32), σ) := (Option.some.inj hf).symm
        exact g_iret C rfl hQ (by rw [e0]) rfl dX9_addTemplate_34
      · refine g_iload C 4 dX9_addTemplate_21 rfl ?_
        refine g_iconst C (v := 0) dX9_addTemplate_23 rfl ?_
        refine g_bipush C (v := 7) dX9_addTemplate_24 rfl ?_
        obtain ⟨v26, h1, hf⟩ := g_bind hf
        refine g_callSi C 3 [.int p4, .int (0 : Int32), .int (7 : Int32)] (c_X9_isBetween (Xl X) (gC_I C)  h1) ⟨wml_771, wst_772, win_10, wcd_773⟩ hd_X9_isBetween ⟨rfl, rfl⟩ ⟨Nat.le_of_ble_eq_true rfl, Nat.le_of_ble_eq_true rfl⟩ rfl rfl (Nat.le_of_ble_eq_true rfl) dX9_addTemplate_26 ?_
        clear h1
        refine g_if_ne C 35 hf dX9_addTemplate_29 (by decide) (fun hf => ?_) (fun hf => ?_)
        · refine g_bipush C (v := (-2)) dX9_addTemplate_32 rfl ?_
          have e0 : r0 = ((-2 : Int32), σ) := (Option.some.inj hf).symm
          exact g_iret C rfl hQ (by rw [e0]) rfl dX9_addTemplate_34
        · refine g_aload_n C 0 dX9_addTemplate_35 rfl ?_
          refine g_geti C 9 16 (by decide) sh_157 rfl vc_9 (by decide) inXX9 wfl_677 dX9_addTemplate_36 ?_
          refine g_if_eq C 45 hf dX9_addTemplate_39 (by decide) (fun hf => ?_) (fun hf => ?_)
          · refine g_aload_n C 0 dX9_addTemplate_45 rfl ?_
            refine g_geti C 9 8 (by decide) sh_157 rfl vc_9 (by decide) inXX9 wfl_669 dX9_addTemplate_46 ?_
            refine g_bipush C (v := 8) dX9_addTemplate_49 rfl ?_
            refine g_icmp_ne C 57 hf dX9_addTemplate_51 (by decide) (fun hf => ?_) (fun hf => ?_)
            · refine g_bipush C (v := (-3)) dX9_addTemplate_54 rfl ?_
              have e0 : r0 = ((-3 : Int32), σ) := (Option.some.inj hf).symm
              exact g_iret C rfl hQ (by rw [e0]) rfl dX9_addTemplate_56
            · refine g_aload_n C 0 dX9_addTemplate_57 rfl ?_
              refine g_getr C 9 9 (613) (by decide) sh_157 rfl vc_9 (by decide) inXX9 wfl_670 dX9_addTemplate_58 ?_
              refine g_aload_n C 0 dX9_addTemplate_61 rfl ?_
              refine g_geti C 9 8 (by decide) sh_157 rfl vc_9 (by decide) inXX9 wfl_669 dX9_addTemplate_62 ?_
              obtain ⟨q65, h1, hf⟩ := g_bind hf
              refine g_aald C h1 dX9_addTemplate_65 ?_
              clear h1
              refine g_iconst C (v := 0) dX9_addTemplate_66 rfl ?_
              refine g_iload_n C 1 dX9_addTemplate_67 rfl ?_
              obtain ⟨s68, h1, hf⟩ := g_bind hf
              refine g_iast C h1 dX9_addTemplate_68 ?_
              clear h1
              refine g_aload_n C 0 dX9_addTemplate_69 rfl ?_
              refine g_getr C 9 9 (613) (by decide) sh_157 rfl vc_9 (by decide) inXX9 wfl_670 dX9_addTemplate_70 ?_
              refine g_aload_n C 0 dX9_addTemplate_73 rfl ?_
              refine g_geti C 9 8 (by decide) sh_157 rfl vc_9 (by decide) inXX9 wfl_669 dX9_addTemplate_74 ?_
              obtain ⟨q77, h1, hf⟩ := g_bind hf
              refine g_aald C h1 dX9_addTemplate_77 ?_
              clear h1
              refine g_iconst C (v := 1) dX9_addTemplate_78 rfl ?_
              refine g_iload_n C 2 dX9_addTemplate_79 rfl ?_
              obtain ⟨s80, h1, hf⟩ := g_bind hf
              refine g_iast C h1 dX9_addTemplate_80 ?_
              clear h1
              refine g_aload_n C 0 dX9_addTemplate_81 rfl ?_
              refine g_getr C 9 9 (613) (by decide) sh_157 rfl vc_9 (by decide) inXX9 wfl_670 dX9_addTemplate_82 ?_
              refine g_aload_n C 0 dX9_addTemplate_85 rfl ?_
              refine g_geti C 9 8 (by decide) sh_157 rfl vc_9 (by decide) inXX9 wfl_669 dX9_addTemplate_86 ?_
              obtain ⟨q89, h1, hf⟩ := g_bind hf
              refine g_aald C h1 dX9_addTemplate_89 ?_
              clear h1
              refine g_iconst C (v := 2) dX9_addTemplate_90 rfl ?_
              refine g_iload_n C 3 dX9_addTemplate_91 rfl ?_
              obtain ⟨s92, h1, hf⟩ := g_bind hf
              refine g_iast C h1 dX9_addTemplate_92 ?_
              clear h1
              refine g_aload_n C 0 dX9_addTemplate_93 rfl ?_
              refine g_getr C 9 10 (622) (by decide) sh_157 rfl vc_9 (by decide) inXX9 wfl_671 dX9_addTemplate_94 ?_
              refine g_aload_n C 0 dX9_addTemplate_97 rfl ?_
              refine g_geti C 9 8 (by decide) sh_157 rfl vc_9 (by decide) inXX9 wfl_669 dX9_addTemplate_98 ?_
              refine g_iload C 4 dX9_addTemplate_101 rfl ?_
              obtain ⟨s103, h1, hf⟩ := g_bind hf
              refine g_iast C h1 dX9_addTemplate_103 ?_
              clear h1
              refine g_aload_n C 0 dX9_addTemplate_104 rfl ?_
              refine g_dup C dX9_addTemplate_105 rfl ?_
              refine g_geti C 9 8 (by decide) sh_157 rfl vc_9 (by decide) inXX9 wfl_669 dX9_addTemplate_106 ?_
              refine g_iconst C (v := 1) dX9_addTemplate_109 rfl ?_
              refine g_iadd C dX9_addTemplate_110 ?_
              obtain ⟨s111, h1, hf⟩ := g_bind hf
              refine g_put C 9 8 (by decide) sh_157 rfl (by decide) vc_9 (by decide) tyX9 tyX9_ok nmX9 inXX9 wfl_669 rfl (ty := .int) (by decide +kernel) rfl rfl dX9_addTemplate_111 ?_
              rw [Option.some.inj h1]
              clear h1
              refine g_aload_n C 0 dX9_addTemplate_114 rfl ?_
              refine g_geti C 9 8 (by decide) sh_157 rfl vc_9 (by decide) inXX9 wfl_669 dX9_addTemplate_115 ?_
              refine g_iconst C (v := 1) dX9_addTemplate_118 rfl ?_
              refine g_isub C dX9_addTemplate_119 ?_
              have e0 : r0 = ((s111 157 8) - (1 : Int32), s111) := (Option.some.inj hf).symm
              exact g_iret C rfl hQ (by rw [e0]) rfl dX9_addTemplate_120
          · refine g_bipush C (v := (-5)) dX9_addTemplate_42 rfl ?_
            have e0 : r0 = ((-5 : Int32), σ) := (Option.some.inj hf).symm
            exact g_iret C rfl hQ (by rw [e0]) rfl dX9_addTemplate_44
theorem c_X9_addTemplate (l : Launch) {Gw : gW} (hI : g_I Gw) {σ : sg} {p1 : Int32} {p2 : Int32} {p3 : Int32} {p4 : Int32} {r : (Int32 × sg)}  (hf : f_X9_addTemplate σ p1 p2 p3 p4 = some r) : gM l Gw yX9_addTemplate cX9_addTemplate 5 (some .int) rm_X9_addTemplate [.ref (Gw.2.2 157), .int p1, .int p2, .int p3, .int p4] σ (qI (Gw) r.1 r.2) := by
  refine g_met hI (by decide) (Nat.le_of_ble_eq_true rfl) (fun X h1 h2 C hQ => ?_)
  subst h1; subst h2
  exact w_X9_addTemplate_e C  hQ hf
theorem dX9_clearTemplates_0 : decode cX9_clearTemplates 0 = .ok (.aload_n 0, 1) := by decide +kernel
theorem dX9_clearTemplates_1 : decode cX9_clearTemplates 1 = .ok (.getfield 100, 3) := by decide +kernel
theorem dX9_clearTemplates_4 : decode cX9_clearTemplates 4 = .ok (.ifCond .eq 6, 3) := by decide +kernel
theorem dX9_clearTemplates_7 : decode cX9_clearTemplates 7 = .ok (.bipush (-5), 2) := by decide +kernel
theorem dX9_clearTemplates_9 : decode cX9_clearTemplates 9 = .ok (.ireturn, 1) := by decide +kernel
theorem dX9_clearTemplates_10 : decode cX9_clearTemplates 10 = .ok (.aload_n 0, 1) := by decide +kernel
theorem dX9_clearTemplates_11 : decode cX9_clearTemplates 11 = .ok (.getfield 154, 3) := by decide +kernel
theorem dX9_clearTemplates_14 : decode cX9_clearTemplates 14 = .ok (.istore_n 1, 1) := by decide +kernel
theorem dX9_clearTemplates_15 : decode cX9_clearTemplates 15 = .ok (.aload_n 0, 1) := by decide +kernel
theorem dX9_clearTemplates_16 : decode cX9_clearTemplates 16 = .ok (.iconst 0, 1) := by decide +kernel
theorem dX9_clearTemplates_17 : decode cX9_clearTemplates 17 = .ok (.putfield 154, 3) := by decide +kernel
theorem dX9_clearTemplates_20 : decode cX9_clearTemplates 20 = .ok (.iload_n 1, 1) := by decide +kernel
theorem dX9_clearTemplates_21 : decode cX9_clearTemplates 21 = .ok (.ireturn, 1) := by decide +kernel
abbrev rm_X9_clearTemplates : Room := { frames := 0, cells := 0, slots := 0, locals := 0 }
theorem w_X9_clearTemplates_e {X : gX} {σ : sg}  {r0 : (Int32 × sg)} (C : gC X cX9_clearTemplates 2 RX9 (some .int) rm_X9_clearTemplates)  (hQ : gQ X (qI (XG X) r0.1 r0.2)) (hf : f_X9_clearTemplates σ = some r0) : G X 2 σ 0 [(0, .ref (Xd X 157))] [] := by
  unfold f_X9_clearTemplates at hf
  refine g_aload_n C 0 dX9_clearTemplates_0 rfl ?_
  refine g_geti C 9 16 (by decide) sh_157 rfl vc_9 (by decide) inXX9 wfl_677 dX9_clearTemplates_1 ?_
  refine g_if_eq C 10 hf dX9_clearTemplates_4 (by decide) (fun hf => ?_) (fun hf => ?_)
  · refine g_aload_n C 0 dX9_clearTemplates_10 rfl ?_
    refine g_geti C 9 8 (by decide) sh_157 rfl vc_9 (by decide) inXX9 wfl_669 dX9_clearTemplates_11 ?_
    refine g_istore_n C (lv' := [(1, .int (σ 157 8)), (0, .ref (Xd X 157))]) dX9_clearTemplates_14 (by decide) rfl ?_
    refine g_aload_n C 1 dX9_clearTemplates_15 rfl ?_
    refine g_iconst C (v := 0) dX9_clearTemplates_16 rfl ?_
    obtain ⟨s17, h1, hf⟩ := g_bind hf
    refine g_put C 9 8 (by decide) sh_157 rfl (by decide) vc_9 (by decide) tyX9 tyX9_ok nmX9 inXX9 wfl_669 rfl (ty := .int) (by decide +kernel) rfl rfl dX9_clearTemplates_17 ?_
    rw [Option.some.inj h1]
    clear h1
    refine g_iload_n C 0 dX9_clearTemplates_20 rfl ?_
    have e0 : r0 = (σ 157 8, s17) := (Option.some.inj hf).symm
    exact g_iret C rfl hQ (by rw [e0]) rfl dX9_clearTemplates_21
  · refine g_bipush C (v := (-5)) dX9_clearTemplates_7 rfl ?_
    have e0 : r0 = ((-5 : Int32), σ) := (Option.some.inj hf).symm
    exact g_iret C rfl hQ (by rw [e0]) rfl dX9_clearTemplates_9
theorem c_X9_clearTemplates (l : Launch) {Gw : gW} (hI : g_I Gw) {σ : sg}  {r : (Int32 × sg)}  (hf : f_X9_clearTemplates σ = some r) : gM l Gw yX9_clearTemplates cX9_clearTemplates 2 (some .int) rm_X9_clearTemplates [.ref (Gw.2.2 157)] σ (qI (Gw) r.1 r.2) := by
  refine g_met hI (by decide) (Nat.le_of_ble_eq_true rfl) (fun X h1 h2 C hQ => ?_)
  subst h1; subst h2
  exact w_X9_clearTemplates_e C  hQ hf
theorem dX9_templateCount_0 : decode cX9_templateCount 0 = .ok (.aload_n 0, 1) := by decide +kernel
theorem dX9_templateCount_1 : decode cX9_templateCount 1 = .ok (.getfield 154, 3) := by decide +kernel
theorem dX9_templateCount_4 : decode cX9_templateCount 4 = .ok (.ireturn, 1) := by decide +kernel
abbrev rm_X9_templateCount : Room := { frames := 0, cells := 0, slots := 0, locals := 0 }
theorem w_X9_templateCount_e {X : gX} {σ : sg}  {r0 : Int32} (C : gC X cX9_templateCount 1 RX9 (some .int) rm_X9_templateCount)  (hQ : gQ X (qI (XG X) r0 σ)) (hf : f_X9_templateCount σ = some r0) : G X 1 σ 0 [(0, .ref (Xd X 157))] [] := by
  unfold f_X9_templateCount at hf
  refine g_aload_n C 0 dX9_templateCount_0 rfl ?_
  refine g_geti C 9 8 (by decide) sh_157 rfl vc_9 (by decide) inXX9 wfl_669 dX9_templateCount_1 ?_
  have e0 : r0 = σ 157 8 := (Option.some.inj hf).symm
  exact g_iret C rfl hQ (by rw [e0]) rfl dX9_templateCount_4
theorem c_X9_templateCount (l : Launch) {Gw : gW} (hI : g_I Gw) {σ : sg}  {r : Int32}  (hf : f_X9_templateCount σ = some r) : gM l Gw yX9_templateCount cX9_templateCount 1 (some .int) rm_X9_templateCount [.ref (Gw.2.2 157)] σ (qI (Gw) r σ) := by
  refine g_met hI (by decide) (Nat.le_of_ble_eq_true rfl) (fun X h1 h2 C hQ => ?_)
  subst h1; subst h2
  exact w_X9_templateCount_e C  hQ hf
theorem dX9_template_0 : decode cX9_template 0 = .ok (.iload_n 1, 1) := by decide +kernel
theorem dX9_template_1 : decode cX9_template 1 = .ok (.iconst 0, 1) := by decide +kernel
theorem dX9_template_2 : decode cX9_template 2 = .ok (.aload_n 0, 1) := by decide +kernel
theorem dX9_template_3 : decode cX9_template 3 = .ok (.getfield 154, 3) := by decide +kernel
theorem dX9_template_6 : decode cX9_template 6 = .ok (.iconst 1, 1) := by decide +kernel
theorem dX9_template_7 : decode cX9_template 7 = .ok (.isub, 1) := by decide +kernel
theorem dX9_template_8 : decode cX9_template 8 = .ok (.invokestatic 77, 3) := by decide +kernel
theorem dX9_template_11 : decode cX9_template 11 = .ok (.ifCond .ne 5, 3) := by decide +kernel
theorem dX9_template_14 : decode cX9_template 14 = .ok (.iconst (-1), 1) := by decide +kernel
theorem dX9_template_15 : decode cX9_template 15 = .ok (.ireturn, 1) := by decide +kernel
theorem dX9_template_16 : decode cX9_template 16 = .ok (.iload_n 2, 1) := by decide +kernel
theorem dX9_template_17 : decode cX9_template 17 = .ok (.iconst 0, 1) := by decide +kernel
theorem dX9_template_18 : decode cX9_template 18 = .ok (.iconst 3, 1) := by decide +kernel
theorem dX9_template_19 : decode cX9_template 19 = .ok (.invokestatic 77, 3) := by decide +kernel
theorem dX9_template_22 : decode cX9_template 22 = .ok (.ifCond .ne 8, 3) := by decide +kernel
theorem dX9_template_25 : decode cX9_template 25 = .ok (.bipush (-2), 2) := by decide +kernel
theorem dX9_template_27 : decode cX9_template 27 = .ok (.goto 25, 3) := by decide +kernel
theorem dX9_template_30 : decode cX9_template 30 = .ok (.iload_n 2, 1) := by decide +kernel
theorem dX9_template_31 : decode cX9_template 31 = .ok (.iconst 3, 1) := by decide +kernel
theorem dX9_template_32 : decode cX9_template 32 = .ok (.if_icmp .ne 12, 3) := by decide +kernel
theorem dX9_template_35 : decode cX9_template 35 = .ok (.aload_n 0, 1) := by decide +kernel
theorem dX9_template_36 : decode cX9_template 36 = .ok (.getfield 32, 3) := by decide +kernel
theorem dX9_template_39 : decode cX9_template 39 = .ok (.iload_n 1, 1) := by decide +kernel
theorem dX9_template_40 : decode cX9_template 40 = .ok (.iaload, 1) := by decide +kernel
theorem dX9_template_41 : decode cX9_template 41 = .ok (.goto 11, 3) := by decide +kernel
theorem dX9_template_44 : decode cX9_template 44 = .ok (.aload_n 0, 1) := by decide +kernel
theorem dX9_template_45 : decode cX9_template 45 = .ok (.getfield 29, 3) := by decide +kernel
theorem dX9_template_48 : decode cX9_template 48 = .ok (.iload_n 1, 1) := by decide +kernel
theorem dX9_template_49 : decode cX9_template 49 = .ok (.aaload, 1) := by decide +kernel
theorem dX9_template_50 : decode cX9_template 50 = .ok (.iload_n 2, 1) := by decide +kernel
theorem dX9_template_51 : decode cX9_template 51 = .ok (.iaload, 1) := by decide +kernel
theorem dX9_template_52 : decode cX9_template 52 = .ok (.ireturn, 1) := by decide +kernel
abbrev rm_X9_template : Room := { frames := 1, cells := 0, slots := 0, locals := 22 }
theorem w_X9_template_e {X : gX} {σ : sg} {p1 : Int32} {p2 : Int32} {r0 : Int32} (C : gC X cX9_template 3 RX9 (some .int) rm_X9_template)  (hQ : gQ X (qI (XG X) r0 σ)) (hf : f_X9_template σ p1 p2 = some r0) : G X 3 σ 0 [(0, .ref (Xd X 157)), (1, .int p1), (2, .int p2)] [] := by
  unfold f_X9_template at hf
  refine g_iload_n C 1 dX9_template_0 rfl ?_
  refine g_iconst C (v := 0) dX9_template_1 rfl ?_
  refine g_aload_n C 0 dX9_template_2 rfl ?_
  refine g_geti C 9 8 (by decide) sh_157 rfl vc_9 (by decide) inXX9 wfl_669 dX9_template_3 ?_
  refine g_iconst C (v := 1) dX9_template_6 rfl ?_
  refine g_isub C dX9_template_7 ?_
  obtain ⟨v8, h1, hf⟩ := g_bind hf
  refine g_callSi C 3 [.int p1, .int (0 : Int32), .int ((σ 157 8) - (1 : Int32))] (c_X9_isBetween (Xl X) (gC_I C)  h1) ⟨wml_771, wst_772, win_10, wcd_773⟩ hd_X9_isBetween ⟨rfl, rfl⟩ ⟨Nat.le_of_ble_eq_true rfl, Nat.le_of_ble_eq_true rfl⟩ rfl rfl (Nat.le_of_ble_eq_true rfl) dX9_template_8 ?_
  clear h1
  refine g_if_ne C 16 hf dX9_template_11 (by decide) (fun hf => ?_) (fun hf => ?_)
  · refine g_iconst C (v := (-1)) dX9_template_14 rfl ?_
    have e0 : r0 = (-1 : Int32) := (Option.some.inj hf).symm
    exact g_iret C rfl hQ (by rw [e0]) rfl dX9_template_15
  · refine g_iload_n C 2 dX9_template_16 rfl ?_
    refine g_iconst C (v := 0) dX9_template_17 rfl ?_
    refine g_iconst C (v := 3) dX9_template_18 rfl ?_
    obtain ⟨v19, h1, hf⟩ := g_bind hf
    refine g_callSi C 3 [.int p2, .int (0 : Int32), .int (3 : Int32)] (c_X9_isBetween (Xl X) (gC_I C)  h1) ⟨wml_771, wst_772, win_10, wcd_773⟩ hd_X9_isBetween ⟨rfl, rfl⟩ ⟨Nat.le_of_ble_eq_true rfl, Nat.le_of_ble_eq_true rfl⟩ rfl rfl (Nat.le_of_ble_eq_true rfl) dX9_template_19 ?_
    clear h1
    refine g_if_ne C 30 hf dX9_template_22 (by decide) (fun hf => ?_) (fun hf => ?_)
    · refine g_bipush C (v := (-2)) dX9_template_25 rfl ?_
      refine g_goto C 52 dX9_template_27 (by decide) ?_
      have e0 : r0 = (-2 : Int32) := (Option.some.inj hf).symm
      exact g_iret C rfl hQ (by rw [e0]) rfl dX9_template_52
    · refine g_iload_n C 2 dX9_template_30 rfl ?_
      refine g_iconst C (v := 3) dX9_template_31 rfl ?_
      refine g_icmp_ne C 44 hf dX9_template_32 (by decide) (fun hf => ?_) (fun hf => ?_)
      · refine g_aload_n C 0 dX9_template_35 rfl ?_
        refine g_getr C 9 10 (622) (by decide) sh_157 rfl vc_9 (by decide) inXX9 wfl_671 dX9_template_36 ?_
        refine g_iload_n C 1 dX9_template_39 rfl ?_
        obtain ⟨v40, h1, hf⟩ := g_bind hf
        refine g_iald C h1 dX9_template_40 ?_
        clear h1
        refine g_goto C 52 dX9_template_41 (by decide) ?_
        have e0 : r0 = v40 := (Option.some.inj hf).symm
        exact g_iret C rfl hQ (by rw [e0]) rfl dX9_template_52
      · refine g_aload_n C 0 dX9_template_44 rfl ?_
        refine g_getr C 9 9 (613) (by decide) sh_157 rfl vc_9 (by decide) inXX9 wfl_670 dX9_template_45 ?_
        refine g_iload_n C 1 dX9_template_48 rfl ?_
        obtain ⟨q49, h1, hf⟩ := g_bind hf
        refine g_aald C h1 dX9_template_49 ?_
        clear h1
        refine g_iload_n C 2 dX9_template_50 rfl ?_
        obtain ⟨v51, h1, hf⟩ := g_bind hf
        refine g_iald C h1 dX9_template_51 ?_
        clear h1
        have e0 : r0 = v51 := (Option.some.inj hf).symm
        exact g_iret C rfl hQ (by rw [e0]) rfl dX9_template_52
theorem c_X9_template (l : Launch) {Gw : gW} (hI : g_I Gw) {σ : sg} {p1 : Int32} {p2 : Int32} {r : Int32}  (hf : f_X9_template σ p1 p2 = some r) : gM l Gw yX9_template cX9_template 3 (some .int) rm_X9_template [.ref (Gw.2.2 157), .int p1, .int p2] σ (qI (Gw) r σ) := by
  refine g_met hI (by decide) (Nat.le_of_ble_eq_true rfl) (fun X h1 h2 C hQ => ?_)
  subst h1; subst h2
  exact w_X9_template_e C  hQ hf
theorem dX9_countMarks_0 : decode cX9_countMarks 0 = .ok (.iload_n 0, 1) := by decide +kernel
theorem dX9_countMarks_1 : decode cX9_countMarks 1 = .ok (.iconst 1, 1) := by decide +kernel
theorem dX9_countMarks_2 : decode cX9_countMarks 2 = .ok (.iand, 1) := by decide +kernel
theorem dX9_countMarks_3 : decode cX9_countMarks 3 = .ok (.iload_n 0, 1) := by decide +kernel
theorem dX9_countMarks_4 : decode cX9_countMarks 4 = .ok (.iconst 1, 1) := by decide +kernel
theorem dX9_countMarks_5 : decode cX9_countMarks 5 = .ok (.ishr, 1) := by decide +kernel
theorem dX9_countMarks_6 : decode cX9_countMarks 6 = .ok (.iconst 1, 1) := by decide +kernel
theorem dX9_countMarks_7 : decode cX9_countMarks 7 = .ok (.iand, 1) := by decide +kernel
theorem dX9_countMarks_8 : decode cX9_countMarks 8 = .ok (.iadd, 1) := by decide +kernel
theorem dX9_countMarks_9 : decode cX9_countMarks 9 = .ok (.iload_n 0, 1) := by decide +kernel
theorem dX9_countMarks_10 : decode cX9_countMarks 10 = .ok (.iconst 2, 1) := by decide +kernel
theorem dX9_countMarks_11 : decode cX9_countMarks 11 = .ok (.ishr, 1) := by decide +kernel
theorem dX9_countMarks_12 : decode cX9_countMarks 12 = .ok (.iconst 1, 1) := by decide +kernel
theorem dX9_countMarks_13 : decode cX9_countMarks 13 = .ok (.iand, 1) := by decide +kernel
theorem dX9_countMarks_14 : decode cX9_countMarks 14 = .ok (.iadd, 1) := by decide +kernel
theorem dX9_countMarks_15 : decode cX9_countMarks 15 = .ok (.ireturn, 1) := by decide +kernel
abbrev rm_X9_countMarks : Room := { frames := 0, cells := 0, slots := 0, locals := 0 }
theorem w_X9_countMarks_e {X : gX} {σ : sg} {p0 : Int32} {r0 : Int32} (C : gC X cX9_countMarks 1 RX9 (some .int) rm_X9_countMarks)  (hQ : gQ X (qI (XG X) r0 σ)) (hf : f_X9_countMarks σ p0 = some r0) : G X 1 σ 0 [(0, .int p0)] [] := by
  unfold f_X9_countMarks at hf
  refine g_iload_n C 0 dX9_countMarks_0 rfl ?_
  refine g_iconst C (v := 1) dX9_countMarks_1 rfl ?_
  refine g_iand C dX9_countMarks_2 ?_
  refine g_iload_n C 0 dX9_countMarks_3 rfl ?_
  refine g_iconst C (v := 1) dX9_countMarks_4 rfl ?_
  refine g_ishr C dX9_countMarks_5 ?_
  refine g_iconst C (v := 1) dX9_countMarks_6 rfl ?_
  refine g_iand C dX9_countMarks_7 ?_
  refine g_iadd C dX9_countMarks_8 ?_
  refine g_iload_n C 0 dX9_countMarks_9 rfl ?_
  refine g_iconst C (v := 2) dX9_countMarks_10 rfl ?_
  refine g_ishr C dX9_countMarks_11 ?_
  refine g_iconst C (v := 1) dX9_countMarks_12 rfl ?_
  refine g_iand C dX9_countMarks_13 ?_
  refine g_iadd C dX9_countMarks_14 ?_
  have e0 : r0 = ((p0 &&& (1 : Int32)) + ((p0 >>> ((1 : Int32) &&& 31)) &&& (1 : Int32))) + ((p0 >>> ((2 : Int32) &&& 31)) &&& (1 : Int32)) := (Option.some.inj hf).symm
  exact g_iret C rfl hQ (by rw [e0]) rfl dX9_countMarks_15
theorem c_X9_countMarks (l : Launch) {Gw : gW} (hI : g_I Gw) {σ : sg} {p0 : Int32} {r : Int32}  (hf : f_X9_countMarks σ p0 = some r) : gM l Gw yX9_countMarks cX9_countMarks 1 (some .int) rm_X9_countMarks [.int p0] σ (qI (Gw) r σ) := by
  refine g_met hI (by decide) (Nat.le_of_ble_eq_true rfl) (fun X h1 h2 C hQ => ?_)
  subst h1; subst h2
  exact w_X9_countMarks_e C  hQ hf
theorem dX9_fits_0 : decode cX9_fits 0 = .ok (.aload_n 0, 1) := by decide +kernel
theorem dX9_fits_1 : decode cX9_fits 1 = .ok (.iload_n 1, 1) := by decide +kernel
theorem dX9_fits_2 : decode cX9_fits 2 = .ok (.invokevirtual 114, 3) := by decide +kernel
theorem dX9_fits_5 : decode cX9_fits 5 = .ok (.istore_n 3, 1) := by decide +kernel
theorem dX9_fits_6 : decode cX9_fits 6 = .ok (.iload_n 3, 1) := by decide +kernel
theorem dX9_fits_7 : decode cX9_fits 7 = .ok (.bipush 7, 2) := by decide +kernel
theorem dX9_fits_9 : decode cX9_fits 9 = .ok (.if_icmp .ge 16, 3) := by decide +kernel
theorem dX9_fits_12 : decode cX9_fits 12 = .ok (.iload_n 2, 1) := by decide +kernel
theorem dX9_fits_13 : decode cX9_fits 13 = .ok (.iconst 1, 1) := by decide +kernel
theorem dX9_fits_14 : decode cX9_fits 14 = .ok (.if_icmp .gt 7, 3) := by decide +kernel
theorem dX9_fits_17 : decode cX9_fits 17 = .ok (.iconst 1, 1) := by decide +kernel
theorem dX9_fits_18 : decode cX9_fits 18 = .ok (.goto 54, 3) := by decide +kernel
theorem dX9_fits_21 : decode cX9_fits 21 = .ok (.iconst 0, 1) := by decide +kernel
theorem dX9_fits_22 : decode cX9_fits 22 = .ok (.goto 50, 3) := by decide +kernel
theorem dX9_fits_25 : decode cX9_fits 25 = .ok (.iload_n 3, 1) := by decide +kernel
theorem dX9_fits_26 : decode cX9_fits 26 = .ok (.bipush 7, 2) := by decide +kernel
theorem dX9_fits_28 : decode cX9_fits 28 = .ok (.if_icmp .ne 16, 3) := by decide +kernel
theorem dX9_fits_31 : decode cX9_fits 31 = .ok (.iload_n 2, 1) := by decide +kernel
theorem dX9_fits_32 : decode cX9_fits 32 = .ok (.iconst 2, 1) := by decide +kernel
theorem dX9_fits_33 : decode cX9_fits 33 = .ok (.if_icmp .ne 7, 3) := by decide +kernel
theorem dX9_fits_36 : decode cX9_fits 36 = .ok (.iconst 1, 1) := by decide +kernel
theorem dX9_fits_37 : decode cX9_fits 37 = .ok (.goto 35, 3) := by decide +kernel
theorem dX9_fits_40 : decode cX9_fits 40 = .ok (.iconst 0, 1) := by decide +kernel
theorem dX9_fits_41 : decode cX9_fits 41 = .ok (.goto 31, 3) := by decide +kernel
theorem dX9_fits_44 : decode cX9_fits 44 = .ok (.iload_n 3, 1) := by decide +kernel
theorem dX9_fits_45 : decode cX9_fits 45 = .ok (.bipush 10, 2) := by decide +kernel
theorem dX9_fits_47 : decode cX9_fits 47 = .ok (.if_icmp .lt 16, 3) := by decide +kernel
theorem dX9_fits_50 : decode cX9_fits 50 = .ok (.iload_n 2, 1) := by decide +kernel
theorem dX9_fits_51 : decode cX9_fits 51 = .ok (.iconst 3, 1) := by decide +kernel
theorem dX9_fits_52 : decode cX9_fits 52 = .ok (.if_icmp .ne 7, 3) := by decide +kernel
theorem dX9_fits_55 : decode cX9_fits 55 = .ok (.iconst 1, 1) := by decide +kernel
theorem dX9_fits_56 : decode cX9_fits 56 = .ok (.goto 16, 3) := by decide +kernel
theorem dX9_fits_59 : decode cX9_fits 59 = .ok (.iconst 0, 1) := by decide +kernel
theorem dX9_fits_60 : decode cX9_fits 60 = .ok (.goto 12, 3) := by decide +kernel
theorem dX9_fits_63 : decode cX9_fits 63 = .ok (.iload_n 2, 1) := by decide +kernel
theorem dX9_fits_64 : decode cX9_fits 64 = .ok (.ifCond .ne 7, 3) := by decide +kernel
theorem dX9_fits_67 : decode cX9_fits 67 = .ok (.iconst 1, 1) := by decide +kernel
theorem dX9_fits_68 : decode cX9_fits 68 = .ok (.goto 4, 3) := by decide +kernel
theorem dX9_fits_71 : decode cX9_fits 71 = .ok (.iconst 0, 1) := by decide +kernel
theorem dX9_fits_72 : decode cX9_fits 72 = .ok (.ireturn, 1) := by decide +kernel
abbrev rm_X9_fits : Room := { frames := 1, cells := 0, slots := 0, locals := 21 }
theorem w_X9_fits_e {X : gX} {σ : sg} {p1 : Int32} {p2 : Int32} {r0 : Int32} (C : gC X cX9_fits 4 RX9 (some .boolean) rm_X9_fits)  (hQ : gQ X (qI (XG X) r0 σ)) (hf : f_X9_fits σ p1 p2 = some r0) : G X 4 σ 0 [(0, .ref (Xd X 157)), (1, .int p1), (2, .int p2)] [] := by
  unfold f_X9_fits at hf
  refine g_aload_n C 0 dX9_fits_0 rfl ?_
  refine g_iload_n C 1 dX9_fits_1 rfl ?_
  obtain ⟨v2, h1, hf⟩ := g_bind hf
  refine g_callVi C 1 [.int p1] (c_X9_operation (Xl X) (gC_I C)  h1) ⟨wml_824, wim_826, wsp_17, win_10, wcd_827⟩ (by decide) sh_157 vc_9 rfl hd_X9_operation ⟨rfl, rfl⟩ ⟨Nat.le_of_ble_eq_true rfl, Nat.le_of_ble_eq_true rfl⟩ rfl rfl (Nat.le_of_ble_eq_true rfl) dX9_fits_2 ?_
  clear h1
  refine g_istore_n C (lv' := [(3, .int v2), (0, .ref (Xd X 157)), (1, .int p1), (2, .int p2)]) dX9_fits_5 (by decide) rfl ?_
  refine g_iload_n C 0 dX9_fits_6 rfl ?_
  refine g_bipush C (v := 7) dX9_fits_7 rfl ?_
  refine g_icmp_ge C 25 hf dX9_fits_9 (by decide) (fun hf => ?_) (fun hf => ?_)
  · refine g_iload_n C 0 dX9_fits_25 rfl ?_
    refine g_bipush C (v := 7) dX9_fits_26 rfl ?_
    refine g_icmp_ne C 44 hf dX9_fits_28 (by decide) (fun hf => ?_) (fun hf => ?_)
    · refine g_iload_n C 3 dX9_fits_31 rfl ?_
      refine g_iconst C (v := 2) dX9_fits_32 rfl ?_
      refine g_icmp_ne C 40 hf dX9_fits_33 (by decide) (fun hf => ?_) (fun hf => ?_)
      · refine g_iconst C (v := 1) dX9_fits_36 rfl ?_
        refine g_goto C 72 dX9_fits_37 (by decide) ?_
        have e0 : r0 = (1 : Int32) := (Option.some.inj hf).symm
        exact g_iret C rfl hQ (by rw [e0]) rfl dX9_fits_72
      · refine g_iconst C (v := 0) dX9_fits_40 rfl ?_
        refine g_goto C 72 dX9_fits_41 (by decide) ?_
        have e0 : r0 = (0 : Int32) := (Option.some.inj hf).symm
        exact g_iret C rfl hQ (by rw [e0]) rfl dX9_fits_72
    · refine g_iload_n C 0 dX9_fits_44 rfl ?_
      refine g_bipush C (v := 10) dX9_fits_45 rfl ?_
      refine g_icmp_lt C 63 hf dX9_fits_47 (by decide) (fun hf => ?_) (fun hf => ?_)
      · refine g_iload_n C 3 dX9_fits_63 rfl ?_
        refine g_if_ne C 71 hf dX9_fits_64 (by decide) (fun hf => ?_) (fun hf => ?_)
        · refine g_iconst C (v := 1) dX9_fits_67 rfl ?_
          refine g_goto C 72 dX9_fits_68 (by decide) ?_
          have e0 : r0 = (1 : Int32) := (Option.some.inj hf).symm
          exact g_iret C rfl hQ (by rw [e0]) rfl dX9_fits_72
        · refine g_iconst C (v := 0) dX9_fits_71 rfl ?_
          have e0 : r0 = (0 : Int32) := (Option.some.inj hf).symm
          exact g_iret C rfl hQ (by rw [e0]) rfl dX9_fits_72
      · refine g_iload_n C 3 dX9_fits_50 rfl ?_
        refine g_iconst C (v := 3) dX9_fits_51 rfl ?_
        refine g_icmp_ne C 59 hf dX9_fits_52 (by decide) (fun hf => ?_) (fun hf => ?_)
        · refine g_iconst C (v := 1) dX9_fits_55 rfl ?_
          refine g_goto C 72 dX9_fits_56 (by decide) ?_
          have e0 : r0 = (1 : Int32) := (Option.some.inj hf).symm
          exact g_iret C rfl hQ (by rw [e0]) rfl dX9_fits_72
        · refine g_iconst C (v := 0) dX9_fits_59 rfl ?_
          refine g_goto C 72 dX9_fits_60 (by decide) ?_
          have e0 : r0 = (0 : Int32) := (Option.some.inj hf).symm
          exact g_iret C rfl hQ (by rw [e0]) rfl dX9_fits_72
  · refine g_iload_n C 3 dX9_fits_12 rfl ?_
    refine g_iconst C (v := 1) dX9_fits_13 rfl ?_
    refine g_icmp_gt C 21 hf dX9_fits_14 (by decide) (fun hf => ?_) (fun hf => ?_)
    · refine g_iconst C (v := 0) dX9_fits_21 rfl ?_
      refine g_goto C 72 dX9_fits_22 (by decide) ?_
      have e0 : r0 = (0 : Int32) := (Option.some.inj hf).symm
      exact g_iret C rfl hQ (by rw [e0]) rfl dX9_fits_72
    · refine g_iconst C (v := 1) dX9_fits_17 rfl ?_
      refine g_goto C 72 dX9_fits_18 (by decide) ?_
      have e0 : r0 = (1 : Int32) := (Option.some.inj hf).symm
      exact g_iret C rfl hQ (by rw [e0]) rfl dX9_fits_72
theorem c_X9_fits (l : Launch) {Gw : gW} (hI : g_I Gw) {σ : sg} {p1 : Int32} {p2 : Int32} {r : Int32}  (hf : f_X9_fits σ p1 p2 = some r) : gM l Gw yX9_fits cX9_fits 4 (some .boolean) rm_X9_fits [.ref (Gw.2.2 157), .int p1, .int p2] σ (qI (Gw) r σ) := by
  refine g_met hI (by decide) (Nat.le_of_ble_eq_true rfl) (fun X h1 h2 C hQ => ?_)
  subst h1; subst h2
  exact w_X9_fits_e C  hQ hf
theorem dX9_isReady_0 : decode cX9_isReady 0 = .ok (.iconst 1, 1) := by decide +kernel
theorem dX9_isReady_1 : decode cX9_isReady 1 = .ok (.istore_n 3, 1) := by decide +kernel
theorem dX9_isReady_2 : decode cX9_isReady 2 = .ok (.aload_n 0, 1) := by decide +kernel
theorem dX9_isReady_3 : decode cX9_isReady 3 = .ok (.getfield 26, 3) := by decide +kernel
theorem dX9_isReady_6 : decode cX9_isReady 6 = .ok (.aload_n 0, 1) := by decide +kernel
theorem dX9_isReady_7 : decode cX9_isReady 7 = .ok (.getfield 23, 3) := by decide +kernel
theorem dX9_isReady_10 : decode cX9_isReady 10 = .ok (.iload_n 1, 1) := by decide +kernel
theorem dX9_isReady_11 : decode cX9_isReady 11 = .ok (.iaload, 1) := by decide +kernel
theorem dX9_isReady_12 : decode cX9_isReady 12 = .ok (.iaload, 1) := by decide +kernel
theorem dX9_isReady_13 : decode cX9_isReady 13 = .ok (.istore 4, 2) := by decide +kernel
theorem dX9_isReady_15 : decode cX9_isReady 15 = .ok (.iload 4, 2) := by decide +kernel
theorem dX9_isReady_17 : decode cX9_isReady 17 = .ok (.iload_n 1, 1) := by decide +kernel
theorem dX9_isReady_18 : decode cX9_isReady 18 = .ok (.if_icmp .ge 45, 3) := by decide +kernel
theorem dX9_isReady_21 : decode cX9_isReady 21 = .ok (.aload_n 0, 1) := by decide +kernel
theorem dX9_isReady_22 : decode cX9_isReady 22 = .ok (.iload 4, 2) := by decide +kernel
theorem dX9_isReady_24 : decode cX9_isReady 24 = .ok (.iload_n 1, 1) := by decide +kernel
theorem dX9_isReady_25 : decode cX9_isReady 25 = .ok (.invokevirtual 147, 3) := by decide +kernel
theorem dX9_isReady_28 : decode cX9_isReady 28 = .ok (.istore 5, 2) := by decide +kernel
theorem dX9_isReady_30 : decode cX9_isReady 30 = .ok (.iload_n 3, 1) := by decide +kernel
theorem dX9_isReady_31 : decode cX9_isReady 31 = .ok (.iload 5, 2) := by decide +kernel
theorem dX9_isReady_33 : decode cX9_isReady 33 = .ok (.ifCond .lt 17, 3) := by decide +kernel
theorem dX9_isReady_36 : decode cX9_isReady 36 = .ok (.aload_n 0, 1) := by decide +kernel
theorem dX9_isReady_37 : decode cX9_isReady 37 = .ok (.getfield 35, 3) := by decide +kernel
theorem dX9_isReady_40 : decode cX9_isReady 40 = .ok (.iload 4, 2) := by decide +kernel
theorem dX9_isReady_42 : decode cX9_isReady 42 = .ok (.iaload, 1) := by decide +kernel
theorem dX9_isReady_43 : decode cX9_isReady 43 = .ok (.iload 5, 2) := by decide +kernel
theorem dX9_isReady_45 : decode cX9_isReady 45 = .ok (.iadd, 1) := by decide +kernel
theorem dX9_isReady_46 : decode cX9_isReady 46 = .ok (.iload_n 2, 1) := by decide +kernel
theorem dX9_isReady_47 : decode cX9_isReady 47 = .ok (.if_icmp .gt 7, 3) := by decide +kernel
theorem dX9_isReady_50 : decode cX9_isReady 50 = .ok (.iconst 1, 1) := by decide +kernel
theorem dX9_isReady_51 : decode cX9_isReady 51 = .ok (.goto 4, 3) := by decide +kernel
theorem dX9_isReady_54 : decode cX9_isReady 54 = .ok (.iconst 0, 1) := by decide +kernel
theorem dX9_isReady_55 : decode cX9_isReady 55 = .ok (.iand, 1) := by decide +kernel
theorem dX9_isReady_56 : decode cX9_isReady 56 = .ok (.istore_n 3, 1) := by decide +kernel
theorem dX9_isReady_57 : decode cX9_isReady 57 = .ok (.iinc 4 1, 3) := by decide +kernel
theorem dX9_isReady_60 : decode cX9_isReady 60 = .ok (.goto (-45), 3) := by decide +kernel
theorem dX9_isReady_63 : decode cX9_isReady 63 = .ok (.iload_n 3, 1) := by decide +kernel
theorem dX9_isReady_64 : decode cX9_isReady 64 = .ok (.ireturn, 1) := by decide +kernel
abbrev rm_X9_isReady : Room := { frames := 3, cells := 0, slots := 0, locals := 72 }
theorem w_X9_isReady_55 {X : gX} {σ : sg} {p1 : Int32} {p2 : Int32} {x4 : Int32} {t0 : Int32} {t1 : Int32} {r0 : Int32} {r1 : ((Int32 × Int32) ⊕ Int32)} (C : gC X cX9_isReady 6 RX9 (some .boolean) rm_X9_isReady)  (hQ : gQ X (qI (XG X) r0 σ)) (A1 : ∀ b, r1 = .inl b → G X 6 σ 15 [(0, .ref (Xd X 157)), (1, .int p1), (2, .int p2), (3, .int b.1), (4, .int b.2)] []) (B1 : ∀ b, r1 = .inr b → b = r0) (hf : J_X9_isReady_55 σ p1 p2 x4 t0 t1 = some r1) : G X 6 σ 55 [(0, .ref (Xd X 157)), (1, .int p1), (2, .int p2), (4, .int x4)] [.int t0, .int t1] := by
  unfold J_X9_isReady_55 at hf
  refine g_iand C dX9_isReady_55 ?_
  refine g_istore_n C (lv' := [(3, .int (t1 &&& t0)), (0, .ref (Xd X 157)), (1, .int p1), (2, .int p2), (4, .int x4)]) dX9_isReady_56 (by decide) rfl ?_
  refine g_iinc C (v := x4 + (1 : Int32)) (lv' := [(4, .int (x4 + (1 : Int32))), (3, .int (t1 &&& t0)), (0, .ref (Xd X 157)), (1, .int p1), (2, .int p2)]) 4 dX9_isReady_57 rfl rfl (by decide) rfl ?_
  refine g_goto C 15 dX9_isReady_60 (by decide) ?_
  refine g_sub [2, 3, 4, 1, 0] rfl ?_
  exact A1 (t1 &&& t0, x4 + (1 : Int32)) (Option.some.inj hf).symm
theorem w_X9_isReady_50 {X : gX} {σ : sg} {p1 : Int32} {p2 : Int32} {x4 : Int32} {t0 : Int32} {r0 : Int32} {r1 : ((Int32 × Int32) ⊕ Int32)} (C : gC X cX9_isReady 6 RX9 (some .boolean) rm_X9_isReady)  (hQ : gQ X (qI (XG X) r0 σ)) (A1 : ∀ b, r1 = .inl b → G X 6 σ 15 [(0, .ref (Xd X 157)), (1, .int p1), (2, .int p2), (3, .int b.1), (4, .int b.2)] []) (B1 : ∀ b, r1 = .inr b → b = r0) (hf : J_X9_isReady_50 σ p1 p2 x4 t0 = some r1) : G X 6 σ 50 [(0, .ref (Xd X 157)), (1, .int p1), (2, .int p2), (4, .int x4)] [.int t0] := by
  unfold J_X9_isReady_50 at hf
  refine g_iconst C (v := 1) dX9_isReady_50 rfl ?_
  refine g_goto C 55 dX9_isReady_51 (by decide) ?_
  exact w_X9_isReady_55 C  hQ A1 B1 hf
theorem w_X9_isReady_15 {X : gX} {σ : sg} {p1 : Int32} {p2 : Int32} {x3 : Int32} {x4 : Int32} {r0 : Int32} {r1 : ((Int32 × Int32) ⊕ Int32)} (C : gC X cX9_isReady 6 RX9 (some .boolean) rm_X9_isReady)  (hQ : gQ X (qI (XG X) r0 σ)) (A1 : ∀ b, r1 = .inl b → G X 6 σ 15 [(0, .ref (Xd X 157)), (1, .int p1), (2, .int p2), (3, .int b.1), (4, .int b.2)] []) (B1 : ∀ b, r1 = .inr b → b = r0) (hf : B_X9_isReady_15 σ p1 p2 x3 x4 = some r1) : G X 6 σ 15 [(0, .ref (Xd X 157)), (1, .int p1), (2, .int p2), (3, .int x3), (4, .int x4)] [] := by
  unfold B_X9_isReady_15 at hf
  refine g_iload C 4 dX9_isReady_15 rfl ?_
  refine g_iload_n C 1 dX9_isReady_17 rfl ?_
  refine g_icmp_ge C 63 hf dX9_isReady_18 (by decide) (fun hf => ?_) (fun hf => ?_)
  · refine g_iload_n C 3 dX9_isReady_63 rfl ?_
    refine g_if hf (fun hf hz => ?_) (fun hf _ => by cases hf)
    have e0 : r0 = x3 := (B1 _ (Option.some.inj hf).symm).symm
    exact g_iret C rfl hQ (by rw [e0]) (g_nz hz) dX9_isReady_64
  · refine g_aload_n C 0 dX9_isReady_21 rfl ?_
    refine g_iload C 4 dX9_isReady_22 rfl ?_
    refine g_iload_n C 1 dX9_isReady_24 rfl ?_
    obtain ⟨v25, h1, hf⟩ := g_bind hf
    refine g_callVi C 2 [.int x4, .int p1] (c_X9_distanceOf (Xl X) (gC_I C)  h1) ⟨wml_852, wim_854, wsp_21, win_10, wcd_855⟩ (by decide) sh_157 vc_9 rfl hd_X9_distanceOf ⟨rfl, rfl⟩ ⟨Nat.le_of_ble_eq_true rfl, Nat.le_of_ble_eq_true rfl⟩ rfl rfl (Nat.le_of_ble_eq_true rfl) dX9_isReady_25 ?_
    clear h1
    refine g_istore C (lv' := [(5, .int v25), (0, .ref (Xd X 157)), (1, .int p1), (2, .int p2), (3, .int x3), (4, .int x4)]) dX9_isReady_28 (by decide) rfl ?_
    refine g_iload_n C 4 dX9_isReady_30 rfl ?_
    refine g_iload C 0 dX9_isReady_31 rfl ?_
    refine g_if_lt C 50 hf dX9_isReady_33 (by decide) (fun hf => ?_) (fun hf => ?_)
    · refine g_sub [1, 2, 3, 5] rfl ?_
      exact w_X9_isReady_50 C  hQ A1 B1 hf
    · refine g_aload_n C 1 dX9_isReady_36 rfl ?_
      refine g_getr C 9 11 (623) (by decide) sh_157 rfl vc_9 (by decide) inXX9 wfl_672 dX9_isReady_37 ?_
      refine g_iload C 5 dX9_isReady_40 rfl ?_
      obtain ⟨v42, h1, hf⟩ := g_bind hf
      refine g_iald C h1 dX9_isReady_42 ?_
      clear h1
      refine g_iload C 0 dX9_isReady_43 rfl ?_
      refine g_iadd C dX9_isReady_45 ?_
      refine g_iload_n C 3 dX9_isReady_46 rfl ?_
      refine g_icmp_gt C 54 hf dX9_isReady_47 (by decide) (fun hf => ?_) (fun hf => ?_)
      · refine g_iconst C (v := 0) dX9_isReady_54 rfl ?_
        refine g_sub [1, 2, 3, 5] rfl ?_
        exact w_X9_isReady_55 C  hQ A1 B1 hf
      · refine g_sub [1, 2, 3, 5] rfl ?_
        exact w_X9_isReady_50 C  hQ A1 B1 hf
theorem wl_X9_isReady_15 {X : gX} {σ : sg} {p1 : Int32} {p2 : Int32} {r0 : Int32} (C : gC X cX9_isReady 6 RX9 (some .boolean) rm_X9_isReady)  (hQ : gQ X (qI (XG X) r0 σ))  {n : Nat} {a : (Int32 × Int32)} (hf : L_X9_isReady_15 σ p1 p2 n a = some r0) : G X 6 σ 15 [(0, .ref (Xd X 157)), (1, .int p1), (2, .int p2), (3, .int a.1), (4, .int a.2)] [] := by
  unfold L_X9_isReady_15 at hf
  have key := g_loop_ind (res := r0) (f := fun a => B_X9_isReady_15 σ p1 p2 a.1 a.2) (P := fun a => G X 6 σ 15 [(0, .ref (Xd X 157)), (1, .int p1), (2, .int p2), (3, .int a.1), (4, .int a.2)] []) (fun a r1 h1 k1 k2 => w_X9_isReady_15 (x3 := a.1) (x4 := a.2) C  hQ  k1 k2 h1)
  exact key n a hf
theorem w_X9_isReady_e {X : gX} {σ : sg} {p1 : Int32} {p2 : Int32} {r0 : Int32} (C : gC X cX9_isReady 6 RX9 (some .boolean) rm_X9_isReady)  (hQ : gQ X (qI (XG X) r0 σ)) (hf : f_X9_isReady σ p1 p2 = some r0) : G X 6 σ 0 [(0, .ref (Xd X 157)), (1, .int p1), (2, .int p2)] [] := by
  unfold f_X9_isReady at hf
  refine g_iconst C (v := 1) dX9_isReady_0 rfl ?_
  refine g_istore_n C (lv' := [(3, .int (1 : Int32)), (0, .ref (Xd X 157)), (1, .int p1), (2, .int p2)]) dX9_isReady_1 (by decide) rfl ?_
  refine g_aload_n C 1 dX9_isReady_2 rfl ?_
  refine g_getr C 9 6 (612) (by decide) sh_157 rfl vc_9 (by decide) inXX9 wfl_667 dX9_isReady_3 ?_
  refine g_aload_n C 1 dX9_isReady_6 rfl ?_
  refine g_getr C 9 5 (611) (by decide) sh_157 rfl vc_9 (by decide) inXX9 wfl_666 dX9_isReady_7 ?_
  refine g_iload_n C 2 dX9_isReady_10 rfl ?_
  obtain ⟨v11, h1, hf⟩ := g_bind hf
  refine g_iald C h1 dX9_isReady_11 ?_
  clear h1
  obtain ⟨v12, h1, hf⟩ := g_bind hf
  refine g_iald C h1 dX9_isReady_12 ?_
  clear h1
  refine g_istore C (lv' := [(4, .int v12), (3, .int (1 : Int32)), (0, .ref (Xd X 157)), (1, .int p1), (2, .int p2)]) dX9_isReady_13 (by decide) rfl ?_
  refine g_sub [2, 3, 4, 1, 0] rfl ?_
  exact wl_X9_isReady_15 (a := ((1 : Int32), v12)) C  hQ  hf
theorem c_X9_isReady (l : Launch) {Gw : gW} (hI : g_I Gw) {σ : sg} {p1 : Int32} {p2 : Int32} {r : Int32}  (hf : f_X9_isReady σ p1 p2 = some r) : gM l Gw yX9_isReady cX9_isReady 6 (some .boolean) rm_X9_isReady [.ref (Gw.2.2 157), .int p1, .int p2] σ (qI (Gw) r σ) := by
  refine g_met hI (by decide) (Nat.le_of_ble_eq_true rfl) (fun X h1 h2 C hQ => ?_)
  subst h1; subst h2
  exact w_X9_isReady_e C  hQ hf
theorem dX9_fill_0 : decode cX9_fill 0 = .ok (.aload_n 0, 1) := by decide +kernel
theorem dX9_fill_1 : decode cX9_fill 1 = .ok (.iload_n 2, 1) := by decide +kernel
theorem dX9_fill_2 : decode cX9_fill 2 = .ok (.putfield 157, 3) := by decide +kernel
theorem dX9_fill_5 : decode cX9_fill 5 = .ok (.aload_n 0, 1) := by decide +kernel
theorem dX9_fill_6 : decode cX9_fill 6 = .ok (.iload_n 3, 1) := by decide +kernel
theorem dX9_fill_7 : decode cX9_fill 7 = .ok (.putfield 160, 3) := by decide +kernel
theorem dX9_fill_10 : decode cX9_fill 10 = .ok (.aload_n 0, 1) := by decide +kernel
theorem dX9_fill_11 : decode cX9_fill 11 = .ok (.iconst 0, 1) := by decide +kernel
theorem dX9_fill_12 : decode cX9_fill 12 = .ok (.putfield 163, 3) := by decide +kernel
theorem dX9_fill_15 : decode cX9_fill 15 = .ok (.iconst 0, 1) := by decide +kernel
theorem dX9_fill_16 : decode cX9_fill 16 = .ok (.istore 5, 2) := by decide +kernel
theorem dX9_fill_18 : decode cX9_fill 18 = .ok (.iload 5, 2) := by decide +kernel
theorem dX9_fill_20 : decode cX9_fill 20 = .ok (.iconst 3, 1) := by decide +kernel
theorem dX9_fill_21 : decode cX9_fill 21 = .ok (.if_icmp .ge 148, 3) := by decide +kernel
theorem dX9_fill_24 : decode cX9_fill 24 = .ok (.aload_n 0, 1) := by decide +kernel
theorem dX9_fill_25 : decode cX9_fill 25 = .ok (.getfield 157, 3) := by decide +kernel
theorem dX9_fill_28 : decode cX9_fill 28 = .ok (.iload 4, 2) := by decide +kernel
theorem dX9_fill_30 : decode cX9_fill 30 = .ok (.if_icmp .ge 42, 3) := by decide +kernel
theorem dX9_fill_33 : decode cX9_fill 33 = .ok (.aload_n 0, 1) := by decide +kernel
theorem dX9_fill_34 : decode cX9_fill 34 = .ok (.aload_n 0, 1) := by decide +kernel
theorem dX9_fill_35 : decode cX9_fill 35 = .ok (.getfield 157, 3) := by decide +kernel
theorem dX9_fill_38 : decode cX9_fill 38 = .ok (.aload_n 0, 1) := by decide +kernel
theorem dX9_fill_39 : decode cX9_fill 39 = .ok (.getfield 29, 3) := by decide +kernel
theorem dX9_fill_42 : decode cX9_fill 42 = .ok (.iload_n 1, 1) := by decide +kernel
theorem dX9_fill_43 : decode cX9_fill 43 = .ok (.aaload, 1) := by decide +kernel
theorem dX9_fill_44 : decode cX9_fill 44 = .ok (.iload 5, 2) := by decide +kernel
theorem dX9_fill_46 : decode cX9_fill 46 = .ok (.iaload, 1) := by decide +kernel
theorem dX9_fill_47 : decode cX9_fill 47 = .ok (.invokevirtual 165, 3) := by decide +kernel
theorem dX9_fill_50 : decode cX9_fill 50 = .ok (.ifCond .eq 22, 3) := by decide +kernel
theorem dX9_fill_53 : decode cX9_fill 53 = .ok (.aload_n 0, 1) := by decide +kernel
theorem dX9_fill_54 : decode cX9_fill 54 = .ok (.aload_n 0, 1) := by decide +kernel
theorem dX9_fill_55 : decode cX9_fill 55 = .ok (.getfield 157, 3) := by decide +kernel
theorem dX9_fill_58 : decode cX9_fill 58 = .ok (.aload_n 0, 1) := by decide +kernel
theorem dX9_fill_59 : decode cX9_fill 59 = .ok (.getfield 160, 3) := by decide +kernel
theorem dX9_fill_62 : decode cX9_fill 62 = .ok (.invokevirtual 168, 3) := by decide +kernel
theorem dX9_fill_65 : decode cX9_fill 65 = .ok (.ifCond .eq 7, 3) := by decide +kernel
theorem dX9_fill_68 : decode cX9_fill 68 = .ok (.iconst 1, 1) := by decide +kernel
theorem dX9_fill_69 : decode cX9_fill 69 = .ok (.goto 4, 3) := by decide +kernel
theorem dX9_fill_72 : decode cX9_fill 72 = .ok (.iconst 0, 1) := by decide +kernel
theorem dX9_fill_73 : decode cX9_fill 73 = .ok (.istore 6, 2) := by decide +kernel
theorem dX9_fill_75 : decode cX9_fill 75 = .ok (.aload_n 0, 1) := by decide +kernel
theorem dX9_fill_76 : decode cX9_fill 76 = .ok (.getfield 38, 3) := by decide +kernel
theorem dX9_fill_79 : decode cX9_fill 79 = .ok (.iload 5, 2) := by decide +kernel
theorem dX9_fill_81 : decode cX9_fill 81 = .ok (.iload 6, 2) := by decide +kernel
theorem dX9_fill_83 : decode cX9_fill 83 = .ok (.ifCond .eq 10, 3) := by decide +kernel
theorem dX9_fill_86 : decode cX9_fill 86 = .ok (.aload_n 0, 1) := by decide +kernel
theorem dX9_fill_87 : decode cX9_fill 87 = .ok (.getfield 157, 3) := by decide +kernel
theorem dX9_fill_90 : decode cX9_fill 90 = .ok (.goto 5, 3) := by decide +kernel
theorem dX9_fill_93 : decode cX9_fill 93 = .ok (.bipush (-4), 2) := by decide +kernel
theorem dX9_fill_95 : decode cX9_fill 95 = .ok (.iastore, 1) := by decide +kernel
theorem dX9_fill_96 : decode cX9_fill 96 = .ok (.iload 6, 2) := by decide +kernel
theorem dX9_fill_98 : decode cX9_fill 98 = .ok (.ifCond .eq 36, 3) := by decide +kernel
theorem dX9_fill_101 : decode cX9_fill 101 = .ok (.aload_n 0, 1) := by decide +kernel
theorem dX9_fill_102 : decode cX9_fill 102 = .ok (.getfield 35, 3) := by decide +kernel
theorem dX9_fill_105 : decode cX9_fill 105 = .ok (.aload_n 0, 1) := by decide +kernel
theorem dX9_fill_106 : decode cX9_fill 106 = .ok (.getfield 157, 3) := by decide +kernel
theorem dX9_fill_109 : decode cX9_fill 109 = .ok (.aload_n 0, 1) := by decide +kernel
theorem dX9_fill_110 : decode cX9_fill 110 = .ok (.getfield 160, 3) := by decide +kernel
theorem dX9_fill_113 : decode cX9_fill 113 = .ok (.iastore, 1) := by decide +kernel
theorem dX9_fill_114 : decode cX9_fill 114 = .ok (.aload_n 0, 1) := by decide +kernel
theorem dX9_fill_115 : decode cX9_fill 115 = .ok (.dup, 1) := by decide +kernel
theorem dX9_fill_116 : decode cX9_fill 116 = .ok (.getfield 157, 3) := by decide +kernel
theorem dX9_fill_119 : decode cX9_fill 119 = .ok (.iconst 1, 1) := by decide +kernel
theorem dX9_fill_120 : decode cX9_fill 120 = .ok (.iadd, 1) := by decide +kernel
theorem dX9_fill_121 : decode cX9_fill 121 = .ok (.putfield 157, 3) := by decide +kernel
theorem dX9_fill_124 : decode cX9_fill 124 = .ok (.aload_n 0, 1) := by decide +kernel
theorem dX9_fill_125 : decode cX9_fill 125 = .ok (.dup, 1) := by decide +kernel
theorem dX9_fill_126 : decode cX9_fill 126 = .ok (.getfield 163, 3) := by decide +kernel
theorem dX9_fill_129 : decode cX9_fill 129 = .ok (.iconst 1, 1) := by decide +kernel
theorem dX9_fill_130 : decode cX9_fill 130 = .ok (.iadd, 1) := by decide +kernel
theorem dX9_fill_131 : decode cX9_fill 131 = .ok (.putfield 163, 3) := by decide +kernel
theorem dX9_fill_134 : decode cX9_fill 134 = .ok (.aload_n 0, 1) := by decide +kernel
theorem dX9_fill_135 : decode cX9_fill 135 = .ok (.dup, 1) := by decide +kernel
theorem dX9_fill_136 : decode cX9_fill 136 = .ok (.getfield 160, 3) := by decide +kernel
theorem dX9_fill_139 : decode cX9_fill 139 = .ok (.aload_n 0, 1) := by decide +kernel
theorem dX9_fill_140 : decode cX9_fill 140 = .ok (.getfield 32, 3) := by decide +kernel
theorem dX9_fill_143 : decode cX9_fill 143 = .ok (.iload_n 1, 1) := by decide +kernel
theorem dX9_fill_144 : decode cX9_fill 144 = .ok (.iaload, 1) := by decide +kernel
theorem dX9_fill_145 : decode cX9_fill 145 = .ok (.iload 5, 2) := by decide +kernel
theorem dX9_fill_147 : decode cX9_fill 147 = .ok (.ishr, 1) := by decide +kernel
theorem dX9_fill_148 : decode cX9_fill 148 = .ok (.iconst 1, 1) := by decide +kernel
theorem dX9_fill_149 : decode cX9_fill 149 = .ok (.iand, 1) := by decide +kernel
theorem dX9_fill_150 : decode cX9_fill 150 = .ok (.iconst 1, 1) := by decide +kernel
theorem dX9_fill_151 : decode cX9_fill 151 = .ok (.if_icmp .ne 7, 3) := by decide +kernel
theorem dX9_fill_154 : decode cX9_fill 154 = .ok (.iconst 1, 1) := by decide +kernel
theorem dX9_fill_155 : decode cX9_fill 155 = .ok (.goto 4, 3) := by decide +kernel
theorem dX9_fill_158 : decode cX9_fill 158 = .ok (.iconst 0, 1) := by decide +kernel
theorem dX9_fill_159 : decode cX9_fill 159 = .ok (.iadd, 1) := by decide +kernel
theorem dX9_fill_160 : decode cX9_fill 160 = .ok (.putfield 160, 3) := by decide +kernel
theorem dX9_fill_163 : decode cX9_fill 163 = .ok (.iinc 5 1, 3) := by decide +kernel
theorem dX9_fill_166 : decode cX9_fill 166 = .ok (.goto (-148), 3) := by decide +kernel
theorem dX9_fill_169 : decode cX9_fill 169 = .ok (.return_, 1) := by decide +kernel
abbrev rm_X9_fill : Room := { frames := 4, cells := 0, slots := 0, locals := 97 }
theorem w_X9_fill_159 {X : gX} {p1 : Int32} {p4 : Int32} {x5 : Int32} {t0 : Int32} {t1 : Int32} {σ : sg} {r0 : sg} {r1 : ((Int32 × sg) ⊕ sg)} (C : gC X cX9_fill 7 RX9 none rm_X9_fill)  (hQ : gQ X (qV (XG X) r0)) (A1 : ∀ b, r1 = .inl b → G X 7 b.2 18 [(0, .ref (Xd X 157)), (1, .int p1), (4, .int p4), (5, .int b.1)] []) (B1 : ∀ b, r1 = .inr b → b = r0) (hf : J_X9_fill_159 p1 p4 x5 t0 t1 σ = some r1) : G X 7 σ 159 [(0, .ref (Xd X 157)), (1, .int p1), (4, .int p4), (5, .int x5)] [.int t0, .int t1, .ref (Xd X 157)] := by
  unfold J_X9_fill_159 at hf
  refine g_iadd C dX9_fill_159 ?_
  obtain ⟨s160, h1, hf⟩ := g_bind hf
  refine g_put C 9 14 (by decide) sh_157 rfl (by decide) vc_9 (by decide) tyX9 tyX9_ok nmX9 inXX9 wfl_675 rfl (ty := .int) (by decide +kernel) rfl rfl dX9_fill_160 ?_
  rw [Option.some.inj h1]
  clear h1
  refine g_iinc C (v := x5 + (1 : Int32)) (lv' := [(5, .int (x5 + (1 : Int32))), (0, .ref (Xd X 157)), (1, .int p1), (4, .int p4)]) 3 dX9_fill_163 rfl rfl (by decide) rfl ?_
  refine g_goto C 18 dX9_fill_166 (by decide) ?_
  refine g_sub [1, 2, 3, 0] rfl ?_
  exact A1 (x5 + (1 : Int32), s160) (Option.some.inj hf).symm
theorem w_X9_fill_134 {X : gX} {p1 : Int32} {p4 : Int32} {x5 : Int32} {σ : sg} {r0 : sg} {r1 : ((Int32 × sg) ⊕ sg)} (C : gC X cX9_fill 7 RX9 none rm_X9_fill)  (hQ : gQ X (qV (XG X) r0)) (A1 : ∀ b, r1 = .inl b → G X 7 b.2 18 [(0, .ref (Xd X 157)), (1, .int p1), (4, .int p4), (5, .int b.1)] []) (B1 : ∀ b, r1 = .inr b → b = r0) (hf : J_X9_fill_134 p1 p4 x5 σ = some r1) : G X 7 σ 134 [(0, .ref (Xd X 157)), (1, .int p1), (4, .int p4), (5, .int x5)] [] := by
  unfold J_X9_fill_134 at hf
  refine g_aload_n C 0 dX9_fill_134 rfl ?_
  refine g_dup C dX9_fill_135 rfl ?_
  refine g_geti C 9 14 (by decide) sh_157 rfl vc_9 (by decide) inXX9 wfl_675 dX9_fill_136 ?_
  refine g_aload_n C 0 dX9_fill_139 rfl ?_
  refine g_getr C 9 10 (622) (by decide) sh_157 rfl vc_9 (by decide) inXX9 wfl_671 dX9_fill_140 ?_
  refine g_iload_n C 1 dX9_fill_143 rfl ?_
  obtain ⟨v144, h1, hf⟩ := g_bind hf
  refine g_iald C h1 dX9_fill_144 ?_
  clear h1
  refine g_iload C 3 dX9_fill_145 rfl ?_
  refine g_ishr C dX9_fill_147 ?_
  refine g_iconst C (v := 1) dX9_fill_148 rfl ?_
  refine g_iand C dX9_fill_149 ?_
  refine g_iconst C (v := 1) dX9_fill_150 rfl ?_
  refine g_icmp_ne C 158 hf dX9_fill_151 (by decide) (fun hf => ?_) (fun hf => ?_)
  · refine g_iconst C (v := 1) dX9_fill_154 rfl ?_
    refine g_goto C 159 dX9_fill_155 (by decide) ?_
    exact w_X9_fill_159 C  hQ A1 B1 hf
  · refine g_iconst C (v := 0) dX9_fill_158 rfl ?_
    exact w_X9_fill_159 C  hQ A1 B1 hf
theorem w_X9_fill_95 {X : gX} {p1 : Int32} {p4 : Int32} {x5 : Int32} {x6 : Int32} {t0 : Int32} {t1 : Int32} {t2 : Nat} {σ : sg} {r0 : sg} {r1 : ((Int32 × sg) ⊕ sg)} (C : gC X cX9_fill 7 RX9 none rm_X9_fill)  (hQ : gQ X (qV (XG X) r0)) (A1 : ∀ b, r1 = .inl b → G X 7 b.2 18 [(0, .ref (Xd X 157)), (1, .int p1), (4, .int p4), (5, .int b.1)] []) (B1 : ∀ b, r1 = .inr b → b = r0) (hf : J_X9_fill_95 p1 p4 x5 x6 t0 t1 t2 σ = some r1) : G X 7 σ 95 [(0, .ref (Xd X 157)), (1, .int p1), (4, .int p4), (5, .int x5), (6, .int x6)] [.int t0, .int t1, .ref (Xd X t2)] := by
  unfold J_X9_fill_95 at hf
  obtain ⟨s95, h1, hf⟩ := g_bind hf
  refine g_iast C h1 dX9_fill_95 ?_
  clear h1
  refine g_iload C 4 dX9_fill_96 rfl ?_
  refine g_if_eq C 134 hf dX9_fill_98 (by decide) (fun hf => ?_) (fun hf => ?_)
  · refine g_sub [0, 1, 2, 3] rfl ?_
    exact w_X9_fill_134 C  hQ A1 B1 hf
  · refine g_aload_n C 0 dX9_fill_101 rfl ?_
    refine g_getr C 9 11 (623) (by decide) sh_157 rfl vc_9 (by decide) inXX9 wfl_672 dX9_fill_102 ?_
    refine g_aload_n C 0 dX9_fill_105 rfl ?_
    refine g_geti C 9 13 (by decide) sh_157 rfl vc_9 (by decide) inXX9 wfl_674 dX9_fill_106 ?_
    refine g_aload_n C 0 dX9_fill_109 rfl ?_
    refine g_geti C 9 14 (by decide) sh_157 rfl vc_9 (by decide) inXX9 wfl_675 dX9_fill_110 ?_
    obtain ⟨s113, h1, hf⟩ := g_bind hf
    refine g_iast C h1 dX9_fill_113 ?_
    clear h1
    refine g_aload_n C 0 dX9_fill_114 rfl ?_
    refine g_dup C dX9_fill_115 rfl ?_
    refine g_geti C 9 13 (by decide) sh_157 rfl vc_9 (by decide) inXX9 wfl_674 dX9_fill_116 ?_
    refine g_iconst C (v := 1) dX9_fill_119 rfl ?_
    refine g_iadd C dX9_fill_120 ?_
    obtain ⟨s121, h1, hf⟩ := g_bind hf
    refine g_put C 9 13 (by decide) sh_157 rfl (by decide) vc_9 (by decide) tyX9 tyX9_ok nmX9 inXX9 wfl_674 rfl (ty := .int) (by decide +kernel) rfl rfl dX9_fill_121 ?_
    rw [Option.some.inj h1]
    clear h1
    refine g_aload_n C 0 dX9_fill_124 rfl ?_
    refine g_dup C dX9_fill_125 rfl ?_
    refine g_geti C 9 15 (by decide) sh_157 rfl vc_9 (by decide) inXX9 wfl_676 dX9_fill_126 ?_
    refine g_iconst C (v := 1) dX9_fill_129 rfl ?_
    refine g_iadd C dX9_fill_130 ?_
    obtain ⟨s131, h1, hf⟩ := g_bind hf
    refine g_put C 9 15 (by decide) sh_157 rfl (by decide) vc_9 (by decide) tyX9 tyX9_ok nmX9 inXX9 wfl_676 rfl (ty := .int) (by decide +kernel) rfl rfl dX9_fill_131 ?_
    rw [Option.some.inj h1]
    clear h1
    refine g_sub [0, 1, 2, 3] rfl ?_
    exact w_X9_fill_134 C  hQ A1 B1 hf
theorem w_X9_fill_73 {X : gX} {p1 : Int32} {p4 : Int32} {x5 : Int32} {t0 : Int32} {σ : sg} {r0 : sg} {r1 : ((Int32 × sg) ⊕ sg)} (C : gC X cX9_fill 7 RX9 none rm_X9_fill)  (hQ : gQ X (qV (XG X) r0)) (A1 : ∀ b, r1 = .inl b → G X 7 b.2 18 [(0, .ref (Xd X 157)), (1, .int p1), (4, .int p4), (5, .int b.1)] []) (B1 : ∀ b, r1 = .inr b → b = r0) (hf : J_X9_fill_73 p1 p4 x5 t0 σ = some r1) : G X 7 σ 73 [(0, .ref (Xd X 157)), (1, .int p1), (4, .int p4), (5, .int x5)] [.int t0] := by
  unfold J_X9_fill_73 at hf
  refine g_istore C (lv' := [(6, .int t0), (0, .ref (Xd X 157)), (1, .int p1), (4, .int p4), (5, .int x5)]) dX9_fill_73 (by decide) rfl ?_
  refine g_aload_n C 1 dX9_fill_75 rfl ?_
  refine g_getr C 9 12 (624) (by decide) sh_157 rfl vc_9 (by decide) inXX9 wfl_673 dX9_fill_76 ?_
  refine g_iload C 4 dX9_fill_79 rfl ?_
  refine g_iload C 0 dX9_fill_81 rfl ?_
  refine g_if_eq C 93 hf dX9_fill_83 (by decide) (fun hf => ?_) (fun hf => ?_)
  · refine g_bipush C (v := (-4)) dX9_fill_93 rfl ?_
    refine g_sub [1, 2, 3, 4, 0] rfl ?_
    exact w_X9_fill_95 C  hQ A1 B1 hf
  · refine g_aload_n C 1 dX9_fill_86 rfl ?_
    refine g_geti C 9 13 (by decide) sh_157 rfl vc_9 (by decide) inXX9 wfl_674 dX9_fill_87 ?_
    refine g_goto C 95 dX9_fill_90 (by decide) ?_
    refine g_sub [1, 2, 3, 4, 0] rfl ?_
    exact w_X9_fill_95 C  hQ A1 B1 hf
theorem w_X9_fill_72 {X : gX} {p1 : Int32} {p4 : Int32} {x5 : Int32} {σ : sg} {r0 : sg} {r1 : ((Int32 × sg) ⊕ sg)} (C : gC X cX9_fill 7 RX9 none rm_X9_fill)  (hQ : gQ X (qV (XG X) r0)) (A1 : ∀ b, r1 = .inl b → G X 7 b.2 18 [(0, .ref (Xd X 157)), (1, .int p1), (4, .int p4), (5, .int b.1)] []) (B1 : ∀ b, r1 = .inr b → b = r0) (hf : J_X9_fill_72 p1 p4 x5 σ = some r1) : G X 7 σ 72 [(0, .ref (Xd X 157)), (1, .int p1), (4, .int p4), (5, .int x5)] [] := by
  unfold J_X9_fill_72 at hf
  refine g_iconst C (v := 0) dX9_fill_72 rfl ?_
  exact w_X9_fill_73 C  hQ A1 B1 hf
theorem w_X9_fill_18 {X : gX} {p1 : Int32} {p4 : Int32} {x5 : Int32} {σ : sg} {r0 : sg} {r1 : ((Int32 × sg) ⊕ sg)} (C : gC X cX9_fill 7 RX9 none rm_X9_fill)  (hQ : gQ X (qV (XG X) r0)) (A1 : ∀ b, r1 = .inl b → G X 7 b.2 18 [(0, .ref (Xd X 157)), (1, .int p1), (4, .int p4), (5, .int b.1)] []) (B1 : ∀ b, r1 = .inr b → b = r0) (hf : B_X9_fill_18 p1 p4 x5 σ = some r1) : G X 7 σ 18 [(0, .ref (Xd X 157)), (1, .int p1), (4, .int p4), (5, .int x5)] [] := by
  unfold B_X9_fill_18 at hf
  refine g_iload C 3 dX9_fill_18 rfl ?_
  refine g_iconst C (v := 3) dX9_fill_20 rfl ?_
  refine g_icmp_ge C 169 hf dX9_fill_21 (by decide) (fun hf => ?_) (fun hf => ?_)
  · have e0 : r0 = σ := (B1 _ (Option.some.inj hf).symm).symm
    exact g_vret C rfl hQ (by rw [e0]) dX9_fill_169
  · refine g_aload_n C 0 dX9_fill_24 rfl ?_
    refine g_geti C 9 13 (by decide) sh_157 rfl vc_9 (by decide) inXX9 wfl_674 dX9_fill_25 ?_
    refine g_iload C 2 dX9_fill_28 rfl ?_
    refine g_icmp_ge C 72 hf dX9_fill_30 (by decide) (fun hf => ?_) (fun hf => ?_)
    · exact w_X9_fill_72 C  hQ A1 B1 hf
    · refine g_aload_n C 0 dX9_fill_33 rfl ?_
      refine g_aload_n C 0 dX9_fill_34 rfl ?_
      refine g_geti C 9 13 (by decide) sh_157 rfl vc_9 (by decide) inXX9 wfl_674 dX9_fill_35 ?_
      refine g_aload_n C 0 dX9_fill_38 rfl ?_
      refine g_getr C 9 9 (613) (by decide) sh_157 rfl vc_9 (by decide) inXX9 wfl_670 dX9_fill_39 ?_
      refine g_iload_n C 1 dX9_fill_42 rfl ?_
      obtain ⟨q43, h1, hf⟩ := g_bind hf
      refine g_aald C h1 dX9_fill_43 ?_
      clear h1
      refine g_iload C 3 dX9_fill_44 rfl ?_
      obtain ⟨v46, h1, hf⟩ := g_bind hf
      refine g_iald C h1 dX9_fill_46 ?_
      clear h1
      obtain ⟨v47, h1, hf⟩ := g_bind hf
      refine g_callVi C 2 [.int (σ 157 13), .int v46] (c_X9_fits (Xl X) (gC_I C)  h1) ⟨wml_903, wim_905, wsp_28, win_10, wcd_906⟩ (by decide) sh_157 vc_9 rfl hd_X9_fits ⟨rfl, rfl⟩ ⟨Nat.le_of_ble_eq_true rfl, Nat.le_of_ble_eq_true rfl⟩ rfl rfl (Nat.le_of_ble_eq_true rfl) dX9_fill_47 ?_
      clear h1
      refine g_if_eq C 72 hf dX9_fill_50 (by decide) (fun hf => ?_) (fun hf => ?_)
      · exact w_X9_fill_72 C  hQ A1 B1 hf
      · refine g_aload_n C 0 dX9_fill_53 rfl ?_
        refine g_aload_n C 0 dX9_fill_54 rfl ?_
        refine g_geti C 9 13 (by decide) sh_157 rfl vc_9 (by decide) inXX9 wfl_674 dX9_fill_55 ?_
        refine g_aload_n C 0 dX9_fill_58 rfl ?_
        refine g_geti C 9 14 (by decide) sh_157 rfl vc_9 (by decide) inXX9 wfl_675 dX9_fill_59 ?_
        obtain ⟨v62, h1, hf⟩ := g_bind hf
        refine g_callVi C 2 [.int (σ 157 13), .int (σ 157 14)] (c_X9_isReady (Xl X) (gC_I C)  h1) ⟨wml_907, wim_909, wsp_29, win_10, wcd_910⟩ (by decide) sh_157 vc_9 rfl hd_X9_isReady ⟨rfl, rfl⟩ ⟨Nat.le_of_ble_eq_true rfl, Nat.le_of_ble_eq_true rfl⟩ rfl rfl (Nat.le_of_ble_eq_true rfl) dX9_fill_62 ?_
        clear h1
        refine g_if_eq C 72 hf dX9_fill_65 (by decide) (fun hf => ?_) (fun hf => ?_)
        · exact w_X9_fill_72 C  hQ A1 B1 hf
        · refine g_iconst C (v := 1) dX9_fill_68 rfl ?_
          refine g_goto C 73 dX9_fill_69 (by decide) ?_
          exact w_X9_fill_73 C  hQ A1 B1 hf
theorem wl_X9_fill_18 {X : gX} {p1 : Int32} {p4 : Int32} {r0 : sg} (C : gC X cX9_fill 7 RX9 none rm_X9_fill)  (hQ : gQ X (qV (XG X) r0))  {n : Nat} {a : (Int32 × sg)} (hf : L_X9_fill_18 p1 p4 n a = some r0) : G X 7 a.2 18 [(0, .ref (Xd X 157)), (1, .int p1), (4, .int p4), (5, .int a.1)] [] := by
  unfold L_X9_fill_18 at hf
  have key := g_loop_ind (res := r0) (f := fun a => B_X9_fill_18 p1 p4 a.1 a.2) (P := fun a => G X 7 a.2 18 [(0, .ref (Xd X 157)), (1, .int p1), (4, .int p4), (5, .int a.1)] []) (fun a r1 h1 k1 k2 => w_X9_fill_18 (x5 := a.1) (σ := a.2) C  hQ  k1 k2 h1)
  exact key n a hf
theorem w_X9_fill_e {X : gX} {σ : sg} {p1 : Int32} {p2 : Int32} {p3 : Int32} {p4 : Int32} {r0 : sg} (C : gC X cX9_fill 7 RX9 none rm_X9_fill)  (hQ : gQ X (qV (XG X) r0)) (hf : f_X9_fill σ p1 p2 p3 p4 = some r0) : G X 7 σ 0 [(0, .ref (Xd X 157)), (1, .int p1), (2, .int p2), (3, .int p3), (4, .int p4)] [] := by
  unfold f_X9_fill at hf
  refine g_aload_n C 0 dX9_fill_0 rfl ?_
  refine g_iload_n C 2 dX9_fill_1 rfl ?_
  obtain ⟨s2, h1, hf⟩ := g_bind hf
  refine g_put C 9 13 (by decide) sh_157 rfl (by decide) vc_9 (by decide) tyX9 tyX9_ok nmX9 inXX9 wfl_674 rfl (ty := .int) (by decide +kernel) rfl rfl dX9_fill_2 ?_
  rw [Option.some.inj h1]
  clear h1
  refine g_aload_n C 0 dX9_fill_5 rfl ?_
  refine g_iload_n C 3 dX9_fill_6 rfl ?_
  obtain ⟨s7, h1, hf⟩ := g_bind hf
  refine g_put C 9 14 (by decide) sh_157 rfl (by decide) vc_9 (by decide) tyX9 tyX9_ok nmX9 inXX9 wfl_675 rfl (ty := .int) (by decide +kernel) rfl rfl dX9_fill_7 ?_
  rw [Option.some.inj h1]
  clear h1
  refine g_aload_n C 0 dX9_fill_10 rfl ?_
  refine g_iconst C (v := 0) dX9_fill_11 rfl ?_
  obtain ⟨s12, h1, hf⟩ := g_bind hf
  refine g_put C 9 15 (by decide) sh_157 rfl (by decide) vc_9 (by decide) tyX9 tyX9_ok nmX9 inXX9 wfl_676 rfl (ty := .int) (by decide +kernel) rfl rfl dX9_fill_12 ?_
  rw [Option.some.inj h1]
  clear h1
  refine g_iconst C (v := 0) dX9_fill_15 rfl ?_
  refine g_istore C (lv' := [(5, .int (0 : Int32)), (0, .ref (Xd X 157)), (1, .int p1), (2, .int p2), (3, .int p3), (4, .int p4)]) dX9_fill_16 (by decide) rfl ?_
  refine g_sub [1, 2, 5, 0] rfl ?_
  exact wl_X9_fill_18 (a := ((0 : Int32), s12)) C  hQ  hf
theorem c_X9_fill (l : Launch) {Gw : gW} (hI : g_I Gw) {σ : sg} {p1 : Int32} {p2 : Int32} {p3 : Int32} {p4 : Int32} {r : sg}  (hf : f_X9_fill σ p1 p2 p3 p4 = some r) : gM l Gw yX9_fill cX9_fill 7 none rm_X9_fill [.ref (Gw.2.2 157), .int p1, .int p2, .int p3, .int p4] σ (qV (Gw) r) := by
  refine g_met hI (by decide) (Nat.le_of_ble_eq_true rfl) (fun X h1 h2 C hQ => ?_)
  subst h1; subst h2
  exact w_X9_fill_e C  hQ hf
theorem dX9_chosen_0 : decode cX9_chosen 0 = .ok (.iconst (-1), 1) := by decide +kernel
theorem dX9_chosen_1 : decode cX9_chosen 1 = .ok (.istore 4, 2) := by decide +kernel
theorem dX9_chosen_3 : decode cX9_chosen 3 = .ok (.iconst (-1), 1) := by decide +kernel
theorem dX9_chosen_4 : decode cX9_chosen 4 = .ok (.istore 5, 2) := by decide +kernel
theorem dX9_chosen_6 : decode cX9_chosen 6 = .ok (.iconst 0, 1) := by decide +kernel
theorem dX9_chosen_7 : decode cX9_chosen 7 = .ok (.istore 6, 2) := by decide +kernel
theorem dX9_chosen_9 : decode cX9_chosen 9 = .ok (.iload 6, 2) := by decide +kernel
theorem dX9_chosen_11 : decode cX9_chosen 11 = .ok (.aload_n 0, 1) := by decide +kernel
theorem dX9_chosen_12 : decode cX9_chosen 12 = .ok (.getfield 154, 3) := by decide +kernel
theorem dX9_chosen_15 : decode cX9_chosen 15 = .ok (.if_icmp .ge 137, 3) := by decide +kernel
theorem dX9_chosen_18 : decode cX9_chosen 18 = .ok (.aload_n 0, 1) := by decide +kernel
theorem dX9_chosen_19 : decode cX9_chosen 19 = .ok (.iload 6, 2) := by decide +kernel
theorem dX9_chosen_21 : decode cX9_chosen 21 = .ok (.iload_n 1, 1) := by decide +kernel
theorem dX9_chosen_22 : decode cX9_chosen 22 = .ok (.iload_n 2, 1) := by decide +kernel
theorem dX9_chosen_23 : decode cX9_chosen 23 = .ok (.iload_n 3, 1) := by decide +kernel
theorem dX9_chosen_24 : decode cX9_chosen 24 = .ok (.invokevirtual 171, 3) := by decide +kernel
theorem dX9_chosen_27 : decode cX9_chosen 27 = .ok (.aload_n 0, 1) := by decide +kernel
theorem dX9_chosen_28 : decode cX9_chosen 28 = .ok (.getfield 32, 3) := by decide +kernel
theorem dX9_chosen_31 : decode cX9_chosen 31 = .ok (.iload 6, 2) := by decide +kernel
theorem dX9_chosen_33 : decode cX9_chosen 33 = .ok (.iaload, 1) := by decide +kernel
theorem dX9_chosen_34 : decode cX9_chosen 34 = .ok (.invokestatic 175, 3) := by decide +kernel
theorem dX9_chosen_37 : decode cX9_chosen 37 = .ok (.istore 7, 2) := by decide +kernel
theorem dX9_chosen_39 : decode cX9_chosen 39 = .ok (.aload_n 0, 1) := by decide +kernel
theorem dX9_chosen_40 : decode cX9_chosen 40 = .ok (.getfield 163, 3) := by decide +kernel
theorem dX9_chosen_43 : decode cX9_chosen 43 = .ok (.iload 5, 2) := by decide +kernel
theorem dX9_chosen_45 : decode cX9_chosen 45 = .ok (.if_icmp .le 7, 3) := by decide +kernel
theorem dX9_chosen_48 : decode cX9_chosen 48 = .ok (.iconst 1, 1) := by decide +kernel
theorem dX9_chosen_49 : decode cX9_chosen 49 = .ok (.goto 4, 3) := by decide +kernel
theorem dX9_chosen_52 : decode cX9_chosen 52 = .ok (.iconst 0, 1) := by decide +kernel
theorem dX9_chosen_53 : decode cX9_chosen 53 = .ok (.istore 8, 2) := by decide +kernel
theorem dX9_chosen_55 : decode cX9_chosen 55 = .ok (.aload_n 0, 1) := by decide +kernel
theorem dX9_chosen_56 : decode cX9_chosen 56 = .ok (.getfield 163, 3) := by decide +kernel
theorem dX9_chosen_59 : decode cX9_chosen 59 = .ok (.iload 5, 2) := by decide +kernel
theorem dX9_chosen_61 : decode cX9_chosen 61 = .ok (.if_icmp .ne 55, 3) := by decide +kernel
theorem dX9_chosen_64 : decode cX9_chosen 64 = .ok (.aload_n 0, 1) := by decide +kernel
theorem dX9_chosen_65 : decode cX9_chosen 65 = .ok (.getfield 163, 3) := by decide +kernel
theorem dX9_chosen_68 : decode cX9_chosen 68 = .ok (.ifCond .le 26, 3) := by decide +kernel
theorem dX9_chosen_71 : decode cX9_chosen 71 = .ok (.iload 7, 2) := by decide +kernel
theorem dX9_chosen_73 : decode cX9_chosen 73 = .ok (.aload_n 0, 1) := by decide +kernel
theorem dX9_chosen_74 : decode cX9_chosen 74 = .ok (.getfield 32, 3) := by decide +kernel
theorem dX9_chosen_77 : decode cX9_chosen 77 = .ok (.iload 4, 2) := by decide +kernel
theorem dX9_chosen_79 : decode cX9_chosen 79 = .ok (.iaload, 1) := by decide +kernel
theorem dX9_chosen_80 : decode cX9_chosen 80 = .ok (.invokestatic 175, 3) := by decide +kernel
theorem dX9_chosen_83 : decode cX9_chosen 83 = .ok (.if_icmp .ge 7, 3) := by decide +kernel
theorem dX9_chosen_86 : decode cX9_chosen 86 = .ok (.iconst 1, 1) := by decide +kernel
theorem dX9_chosen_87 : decode cX9_chosen 87 = .ok (.goto 27, 3) := by decide +kernel
theorem dX9_chosen_90 : decode cX9_chosen 90 = .ok (.iconst 0, 1) := by decide +kernel
theorem dX9_chosen_91 : decode cX9_chosen 91 = .ok (.goto 23, 3) := by decide +kernel
theorem dX9_chosen_94 : decode cX9_chosen 94 = .ok (.iload 7, 2) := by decide +kernel
theorem dX9_chosen_96 : decode cX9_chosen 96 = .ok (.aload_n 0, 1) := by decide +kernel
theorem dX9_chosen_97 : decode cX9_chosen 97 = .ok (.getfield 32, 3) := by decide +kernel
theorem dX9_chosen_100 : decode cX9_chosen 100 = .ok (.iload 4, 2) := by decide +kernel
theorem dX9_chosen_102 : decode cX9_chosen 102 = .ok (.iaload, 1) := by decide +kernel
theorem dX9_chosen_103 : decode cX9_chosen 103 = .ok (.invokestatic 175, 3) := by decide +kernel
theorem dX9_chosen_106 : decode cX9_chosen 106 = .ok (.if_icmp .le 7, 3) := by decide +kernel
theorem dX9_chosen_109 : decode cX9_chosen 109 = .ok (.iconst 1, 1) := by decide +kernel
theorem dX9_chosen_110 : decode cX9_chosen 110 = .ok (.goto 4, 3) := by decide +kernel
theorem dX9_chosen_113 : decode cX9_chosen 113 = .ok (.iconst 0, 1) := by decide +kernel
theorem dX9_chosen_114 : decode cX9_chosen 114 = .ok (.istore 8, 2) := by decide +kernel
theorem dX9_chosen_116 : decode cX9_chosen 116 = .ok (.iload 8, 2) := by decide +kernel
theorem dX9_chosen_118 : decode cX9_chosen 118 = .ok (.ifCond .eq 8, 3) := by decide +kernel
theorem dX9_chosen_121 : decode cX9_chosen 121 = .ok (.iload 6, 2) := by decide +kernel
theorem dX9_chosen_123 : decode cX9_chosen 123 = .ok (.goto 5, 3) := by decide +kernel
theorem dX9_chosen_126 : decode cX9_chosen 126 = .ok (.iload 4, 2) := by decide +kernel
theorem dX9_chosen_128 : decode cX9_chosen 128 = .ok (.istore 4, 2) := by decide +kernel
theorem dX9_chosen_130 : decode cX9_chosen 130 = .ok (.iload 8, 2) := by decide +kernel
theorem dX9_chosen_132 : decode cX9_chosen 132 = .ok (.ifCond .eq 10, 3) := by decide +kernel
theorem dX9_chosen_135 : decode cX9_chosen 135 = .ok (.aload_n 0, 1) := by decide +kernel
theorem dX9_chosen_136 : decode cX9_chosen 136 = .ok (.getfield 163, 3) := by decide +kernel
theorem dX9_chosen_139 : decode cX9_chosen 139 = .ok (.goto 5, 3) := by decide +kernel
theorem dX9_chosen_142 : decode cX9_chosen 142 = .ok (.iload 5, 2) := by decide +kernel
theorem dX9_chosen_144 : decode cX9_chosen 144 = .ok (.istore 5, 2) := by decide +kernel
theorem dX9_chosen_146 : decode cX9_chosen 146 = .ok (.iinc 6 1, 3) := by decide +kernel
theorem dX9_chosen_149 : decode cX9_chosen 149 = .ok (.goto (-140), 3) := by decide +kernel
theorem dX9_chosen_152 : decode cX9_chosen 152 = .ok (.iload 4, 2) := by decide +kernel
theorem dX9_chosen_154 : decode cX9_chosen 154 = .ok (.ireturn, 1) := by decide +kernel
abbrev rm_X9_chosen : Room := { frames := 5, cells := 0, slots := 0, locals := 123 }
theorem w_X9_chosen_144 {X : gX} {p1 : Int32} {p2 : Int32} {p3 : Int32} {x4 : Int32} {x6 : Int32} {t0 : Int32} {σ : sg} {r0 : (Int32 × sg)} {r1 : ((Int32 × Int32 × Int32 × sg) ⊕ (Int32 × sg))} (C : gC X cX9_chosen 9 RX9 (some .int) rm_X9_chosen)  (hQ : gQ X (qI (XG X) r0.1 r0.2)) (A1 : ∀ b, r1 = .inl b → G X 9 b.2.2.2 9 [(0, .ref (Xd X 157)), (1, .int p1), (2, .int p2), (3, .int p3), (4, .int b.1), (5, .int b.2.1), (6, .int b.2.2.1)] []) (B1 : ∀ b, r1 = .inr b → b = r0) (hf : J_X9_chosen_144 p1 p2 p3 x4 x6 t0 σ = some r1) : G X 9 σ 144 [(0, .ref (Xd X 157)), (1, .int p1), (2, .int p2), (3, .int p3), (4, .int x4), (6, .int x6)] [.int t0] := by
  unfold J_X9_chosen_144 at hf
  refine g_istore C (lv' := [(5, .int t0), (0, .ref (Xd X 157)), (1, .int p1), (2, .int p2), (3, .int p3), (4, .int x4), (6, .int x6)]) dX9_chosen_144 (by decide) rfl ?_
  refine g_iinc C (v := x6 + (1 : Int32)) (lv' := [(6, .int (x6 + (1 : Int32))), (5, .int t0), (0, .ref (Xd X 157)), (1, .int p1), (2, .int p2), (3, .int p3), (4, .int x4)]) 6 dX9_chosen_146 rfl rfl (by decide) rfl ?_
  refine g_goto C 9 dX9_chosen_149 (by decide) ?_
  refine g_sub [2, 3, 4, 5, 6, 1, 0] rfl ?_
  exact A1 (x4, t0, x6 + (1 : Int32), σ) (Option.some.inj hf).symm
theorem w_X9_chosen_128 {X : gX} {p1 : Int32} {p2 : Int32} {p3 : Int32} {x5 : Int32} {x6 : Int32} {x8 : Int32} {t0 : Int32} {σ : sg} {r0 : (Int32 × sg)} {r1 : ((Int32 × Int32 × Int32 × sg) ⊕ (Int32 × sg))} (C : gC X cX9_chosen 9 RX9 (some .int) rm_X9_chosen)  (hQ : gQ X (qI (XG X) r0.1 r0.2)) (A1 : ∀ b, r1 = .inl b → G X 9 b.2.2.2 9 [(0, .ref (Xd X 157)), (1, .int p1), (2, .int p2), (3, .int p3), (4, .int b.1), (5, .int b.2.1), (6, .int b.2.2.1)] []) (B1 : ∀ b, r1 = .inr b → b = r0) (hf : J_X9_chosen_128 p1 p2 p3 x5 x6 x8 t0 σ = some r1) : G X 9 σ 128 [(0, .ref (Xd X 157)), (1, .int p1), (2, .int p2), (3, .int p3), (5, .int x5), (6, .int x6), (8, .int x8)] [.int t0] := by
  unfold J_X9_chosen_128 at hf
  refine g_istore C (lv' := [(4, .int t0), (0, .ref (Xd X 157)), (1, .int p1), (2, .int p2), (3, .int p3), (5, .int x5), (6, .int x6), (8, .int x8)]) dX9_chosen_128 (by decide) rfl ?_
  refine g_iload C 7 dX9_chosen_130 rfl ?_
  refine g_if_eq C 142 hf dX9_chosen_132 (by decide) (fun hf => ?_) (fun hf => ?_)
  · refine g_iload C 5 dX9_chosen_142 rfl ?_
    refine g_sub [1, 2, 3, 4, 0, 6] rfl ?_
    exact w_X9_chosen_144 C  hQ A1 B1 hf
  · refine g_aload_n C 1 dX9_chosen_135 rfl ?_
    refine g_geti C 9 15 (by decide) sh_157 rfl vc_9 (by decide) inXX9 wfl_676 dX9_chosen_136 ?_
    refine g_goto C 144 dX9_chosen_139 (by decide) ?_
    refine g_sub [1, 2, 3, 4, 0, 6] rfl ?_
    exact w_X9_chosen_144 C  hQ A1 B1 hf
theorem w_X9_chosen_116 {X : gX} {p1 : Int32} {p2 : Int32} {p3 : Int32} {x4 : Int32} {x5 : Int32} {x6 : Int32} {x8 : Int32} {σ : sg} {r0 : (Int32 × sg)} {r1 : ((Int32 × Int32 × Int32 × sg) ⊕ (Int32 × sg))} (C : gC X cX9_chosen 9 RX9 (some .int) rm_X9_chosen)  (hQ : gQ X (qI (XG X) r0.1 r0.2)) (A1 : ∀ b, r1 = .inl b → G X 9 b.2.2.2 9 [(0, .ref (Xd X 157)), (1, .int p1), (2, .int p2), (3, .int p3), (4, .int b.1), (5, .int b.2.1), (6, .int b.2.2.1)] []) (B1 : ∀ b, r1 = .inr b → b = r0) (hf : J_X9_chosen_116 p1 p2 p3 x4 x5 x6 x8 σ = some r1) : G X 9 σ 116 [(0, .ref (Xd X 157)), (1, .int p1), (2, .int p2), (3, .int p3), (4, .int x4), (5, .int x5), (6, .int x6), (8, .int x8)] [] := by
  unfold J_X9_chosen_116 at hf
  refine g_iload C 7 dX9_chosen_116 rfl ?_
  refine g_if_eq C 126 hf dX9_chosen_118 (by decide) (fun hf => ?_) (fun hf => ?_)
  · refine g_iload C 4 dX9_chosen_126 rfl ?_
    refine g_sub [0, 1, 2, 3, 5, 6, 7] rfl ?_
    exact w_X9_chosen_128 C  hQ A1 B1 hf
  · refine g_iload C 6 dX9_chosen_121 rfl ?_
    refine g_goto C 128 dX9_chosen_123 (by decide) ?_
    refine g_sub [0, 1, 2, 3, 5, 6, 7] rfl ?_
    exact w_X9_chosen_128 C  hQ A1 B1 hf
theorem w_X9_chosen_114 {X : gX} {p1 : Int32} {p2 : Int32} {p3 : Int32} {x4 : Int32} {x5 : Int32} {x6 : Int32} {t0 : Int32} {σ : sg} {r0 : (Int32 × sg)} {r1 : ((Int32 × Int32 × Int32 × sg) ⊕ (Int32 × sg))} (C : gC X cX9_chosen 9 RX9 (some .int) rm_X9_chosen)  (hQ : gQ X (qI (XG X) r0.1 r0.2)) (A1 : ∀ b, r1 = .inl b → G X 9 b.2.2.2 9 [(0, .ref (Xd X 157)), (1, .int p1), (2, .int p2), (3, .int p3), (4, .int b.1), (5, .int b.2.1), (6, .int b.2.2.1)] []) (B1 : ∀ b, r1 = .inr b → b = r0) (hf : J_X9_chosen_114 p1 p2 p3 x4 x5 x6 t0 σ = some r1) : G X 9 σ 114 [(0, .ref (Xd X 157)), (1, .int p1), (2, .int p2), (3, .int p3), (4, .int x4), (5, .int x5), (6, .int x6)] [.int t0] := by
  unfold J_X9_chosen_114 at hf
  refine g_istore C (lv' := [(8, .int t0), (0, .ref (Xd X 157)), (1, .int p1), (2, .int p2), (3, .int p3), (4, .int x4), (5, .int x5), (6, .int x6)]) dX9_chosen_114 (by decide) rfl ?_
  refine g_sub [1, 2, 3, 4, 5, 6, 7, 0] rfl ?_
  exact w_X9_chosen_116 C  hQ A1 B1 hf
theorem w_X9_chosen_53 {X : gX} {p1 : Int32} {p2 : Int32} {p3 : Int32} {x4 : Int32} {x5 : Int32} {x6 : Int32} {x7 : Int32} {t0 : Int32} {σ : sg} {r0 : (Int32 × sg)} {r1 : ((Int32 × Int32 × Int32 × sg) ⊕ (Int32 × sg))} (C : gC X cX9_chosen 9 RX9 (some .int) rm_X9_chosen)  (hQ : gQ X (qI (XG X) r0.1 r0.2)) (A1 : ∀ b, r1 = .inl b → G X 9 b.2.2.2 9 [(0, .ref (Xd X 157)), (1, .int p1), (2, .int p2), (3, .int p3), (4, .int b.1), (5, .int b.2.1), (6, .int b.2.2.1)] []) (B1 : ∀ b, r1 = .inr b → b = r0) (hf : J_X9_chosen_53 p1 p2 p3 x4 x5 x6 x7 t0 σ = some r1) : G X 9 σ 53 [(0, .ref (Xd X 157)), (1, .int p1), (2, .int p2), (3, .int p3), (4, .int x4), (5, .int x5), (6, .int x6), (7, .int x7)] [.int t0] := by
  unfold J_X9_chosen_53 at hf
  refine g_istore C (lv' := [(8, .int t0), (0, .ref (Xd X 157)), (1, .int p1), (2, .int p2), (3, .int p3), (4, .int x4), (5, .int x5), (6, .int x6), (7, .int x7)]) dX9_chosen_53 (by decide) rfl ?_
  refine g_aload_n C 1 dX9_chosen_55 rfl ?_
  refine g_geti C 9 15 (by decide) sh_157 rfl vc_9 (by decide) inXX9 wfl_676 dX9_chosen_56 ?_
  refine g_iload C 6 dX9_chosen_59 rfl ?_
  refine g_icmp_ne C 116 hf dX9_chosen_61 (by decide) (fun hf => ?_) (fun hf => ?_)
  · refine g_aload_n C 1 dX9_chosen_64 rfl ?_
    refine g_geti C 9 15 (by decide) sh_157 rfl vc_9 (by decide) inXX9 wfl_676 dX9_chosen_65 ?_
    refine g_if_le C 94 hf dX9_chosen_68 (by decide) (fun hf => ?_) (fun hf => ?_)
    · refine g_iload C 8 dX9_chosen_94 rfl ?_
      refine g_aload_n C 1 dX9_chosen_96 rfl ?_
      refine g_getr C 9 10 (622) (by decide) sh_157 rfl vc_9 (by decide) inXX9 wfl_671 dX9_chosen_97 ?_
      refine g_iload C 5 dX9_chosen_100 rfl ?_
      obtain ⟨v102, h1, hf⟩ := g_bind hf
      refine g_iald C h1 dX9_chosen_102 ?_
      clear h1
      obtain ⟨v103, h1, hf⟩ := g_bind hf
      refine g_callSi C 1 [.int v102] (c_X9_countMarks (Xl X) (gC_I C)  h1) ⟨wml_911, wst_912, win_10, wcd_913⟩ hd_X9_countMarks ⟨rfl, rfl⟩ ⟨Nat.le_of_ble_eq_true rfl, Nat.le_of_ble_eq_true rfl⟩ rfl rfl (Nat.le_of_ble_eq_true rfl) dX9_chosen_103 ?_
      clear h1
      refine g_icmp_le C 113 hf dX9_chosen_106 (by decide) (fun hf => ?_) (fun hf => ?_)
      · refine g_iconst C (v := 0) dX9_chosen_113 rfl ?_
        refine g_sub [1, 2, 3, 4, 5, 6, 7] rfl ?_
        exact w_X9_chosen_114 C  hQ A1 B1 hf
      · refine g_iconst C (v := 1) dX9_chosen_109 rfl ?_
        refine g_goto C 114 dX9_chosen_110 (by decide) ?_
        refine g_sub [1, 2, 3, 4, 5, 6, 7] rfl ?_
        exact w_X9_chosen_114 C  hQ A1 B1 hf
    · refine g_iload C 8 dX9_chosen_71 rfl ?_
      refine g_aload_n C 1 dX9_chosen_73 rfl ?_
      refine g_getr C 9 10 (622) (by decide) sh_157 rfl vc_9 (by decide) inXX9 wfl_671 dX9_chosen_74 ?_
      refine g_iload C 5 dX9_chosen_77 rfl ?_
      obtain ⟨v79, h1, hf⟩ := g_bind hf
      refine g_iald C h1 dX9_chosen_79 ?_
      clear h1
      obtain ⟨v80, h1, hf⟩ := g_bind hf
      refine g_callSi C 1 [.int v79] (c_X9_countMarks (Xl X) (gC_I C)  h1) ⟨wml_911, wst_912, win_10, wcd_913⟩ hd_X9_countMarks ⟨rfl, rfl⟩ ⟨Nat.le_of_ble_eq_true rfl, Nat.le_of_ble_eq_true rfl⟩ rfl rfl (Nat.le_of_ble_eq_true rfl) dX9_chosen_80 ?_
      clear h1
      refine g_icmp_ge C 90 hf dX9_chosen_83 (by decide) (fun hf => ?_) (fun hf => ?_)
      · refine g_iconst C (v := 0) dX9_chosen_90 rfl ?_
        refine g_goto C 114 dX9_chosen_91 (by decide) ?_
        refine g_sub [1, 2, 3, 4, 5, 6, 7] rfl ?_
        exact w_X9_chosen_114 C  hQ A1 B1 hf
      · refine g_iconst C (v := 1) dX9_chosen_86 rfl ?_
        refine g_goto C 114 dX9_chosen_87 (by decide) ?_
        refine g_sub [1, 2, 3, 4, 5, 6, 7] rfl ?_
        exact w_X9_chosen_114 C  hQ A1 B1 hf
  · refine g_sub [1, 2, 3, 4, 5, 6, 7, 0] rfl ?_
    exact w_X9_chosen_116 C  hQ A1 B1 hf
theorem w_X9_chosen_9 {X : gX} {p1 : Int32} {p2 : Int32} {p3 : Int32} {x4 : Int32} {x5 : Int32} {x6 : Int32} {σ : sg} {r0 : (Int32 × sg)} {r1 : ((Int32 × Int32 × Int32 × sg) ⊕ (Int32 × sg))} (C : gC X cX9_chosen 9 RX9 (some .int) rm_X9_chosen)  (hQ : gQ X (qI (XG X) r0.1 r0.2)) (A1 : ∀ b, r1 = .inl b → G X 9 b.2.2.2 9 [(0, .ref (Xd X 157)), (1, .int p1), (2, .int p2), (3, .int p3), (4, .int b.1), (5, .int b.2.1), (6, .int b.2.2.1)] []) (B1 : ∀ b, r1 = .inr b → b = r0) (hf : B_X9_chosen_9 p1 p2 p3 x4 x5 x6 σ = some r1) : G X 9 σ 9 [(0, .ref (Xd X 157)), (1, .int p1), (2, .int p2), (3, .int p3), (4, .int x4), (5, .int x5), (6, .int x6)] [] := by
  unfold B_X9_chosen_9 at hf
  refine g_iload C 6 dX9_chosen_9 rfl ?_
  refine g_aload_n C 0 dX9_chosen_11 rfl ?_
  refine g_geti C 9 8 (by decide) sh_157 rfl vc_9 (by decide) inXX9 wfl_669 dX9_chosen_12 ?_
  refine g_icmp_ge C 152 hf dX9_chosen_15 (by decide) (fun hf => ?_) (fun hf => ?_)
  · refine g_iload C 4 dX9_chosen_152 rfl ?_
    have e0 : r0 = (x4, σ) := (B1 _ (Option.some.inj hf).symm).symm
    exact g_iret C rfl hQ (by rw [e0]) rfl dX9_chosen_154
  · refine g_aload_n C 0 dX9_chosen_18 rfl ?_
    refine g_iload C 6 dX9_chosen_19 rfl ?_
    refine g_iload_n C 1 dX9_chosen_21 rfl ?_
    refine g_iload_n C 2 dX9_chosen_22 rfl ?_
    refine g_iload_n C 3 dX9_chosen_23 rfl ?_
    obtain ⟨s24, h1, hf⟩ := g_bind hf
    refine g_callVv C 4 [.int x6, .int p1, .int p2, .int p3] (c_X9_fill (Xl X) (gC_I C)  h1) ⟨wml_899, wim_901, wsp_27, win_10, wcd_902⟩ (by decide) sh_157 vc_9 rfl hd_X9_fill ⟨rfl, rfl⟩ ⟨Nat.le_of_ble_eq_true rfl, Nat.le_of_ble_eq_true rfl⟩ rfl rfl (Nat.le_of_ble_eq_true rfl) dX9_chosen_24 ?_
    clear h1
    refine g_aload_n C 0 dX9_chosen_27 rfl ?_
    refine g_getr C 9 10 (622) (by decide) sh_157 rfl vc_9 (by decide) inXX9 wfl_671 dX9_chosen_28 ?_
    refine g_iload C 6 dX9_chosen_31 rfl ?_
    obtain ⟨v33, h1, hf⟩ := g_bind hf
    refine g_iald C h1 dX9_chosen_33 ?_
    clear h1
    obtain ⟨v34, h1, hf⟩ := g_bind hf
    refine g_callSi C 1 [.int v33] (c_X9_countMarks (Xl X) (gC_I C)  h1) ⟨wml_911, wst_912, win_10, wcd_913⟩ hd_X9_countMarks ⟨rfl, rfl⟩ ⟨Nat.le_of_ble_eq_true rfl, Nat.le_of_ble_eq_true rfl⟩ rfl rfl (Nat.le_of_ble_eq_true rfl) dX9_chosen_34 ?_
    clear h1
    refine g_istore C (lv' := [(7, .int v34), (0, .ref (Xd X 157)), (1, .int p1), (2, .int p2), (3, .int p3), (4, .int x4), (5, .int x5), (6, .int x6)]) dX9_chosen_37 (by decide) rfl ?_
    refine g_aload_n C 1 dX9_chosen_39 rfl ?_
    refine g_geti C 9 15 (by decide) sh_157 rfl vc_9 (by decide) inXX9 wfl_676 dX9_chosen_40 ?_
    refine g_iload C 6 dX9_chosen_43 rfl ?_
    refine g_icmp_le C 52 hf dX9_chosen_45 (by decide) (fun hf => ?_) (fun hf => ?_)
    · refine g_iconst C (v := 0) dX9_chosen_52 rfl ?_
      refine g_sub [1, 2, 3, 4, 5, 6, 7, 0] rfl ?_
      exact w_X9_chosen_53 C  hQ A1 B1 hf
    · refine g_iconst C (v := 1) dX9_chosen_48 rfl ?_
      refine g_goto C 53 dX9_chosen_49 (by decide) ?_
      refine g_sub [1, 2, 3, 4, 5, 6, 7, 0] rfl ?_
      exact w_X9_chosen_53 C  hQ A1 B1 hf
theorem wl_X9_chosen_9 {X : gX} {p1 : Int32} {p2 : Int32} {p3 : Int32} {r0 : (Int32 × sg)} (C : gC X cX9_chosen 9 RX9 (some .int) rm_X9_chosen)  (hQ : gQ X (qI (XG X) r0.1 r0.2))  {n : Nat} {a : (Int32 × Int32 × Int32 × sg)} (hf : L_X9_chosen_9 p1 p2 p3 n a = some r0) : G X 9 a.2.2.2 9 [(0, .ref (Xd X 157)), (1, .int p1), (2, .int p2), (3, .int p3), (4, .int a.1), (5, .int a.2.1), (6, .int a.2.2.1)] [] := by
  unfold L_X9_chosen_9 at hf
  have key := g_loop_ind (res := r0) (f := fun a => B_X9_chosen_9 p1 p2 p3 a.1 a.2.1 a.2.2.1 a.2.2.2) (P := fun a => G X 9 a.2.2.2 9 [(0, .ref (Xd X 157)), (1, .int p1), (2, .int p2), (3, .int p3), (4, .int a.1), (5, .int a.2.1), (6, .int a.2.2.1)] []) (fun a r1 h1 k1 k2 => w_X9_chosen_9 (x4 := a.1) (x5 := a.2.1) (x6 := a.2.2.1) (σ := a.2.2.2) C  hQ  k1 k2 h1)
  exact key n a hf
theorem w_X9_chosen_e {X : gX} {σ : sg} {p1 : Int32} {p2 : Int32} {p3 : Int32} {r0 : (Int32 × sg)} (C : gC X cX9_chosen 9 RX9 (some .int) rm_X9_chosen)  (hQ : gQ X (qI (XG X) r0.1 r0.2)) (hf : f_X9_chosen σ p1 p2 p3 = some r0) : G X 9 σ 0 [(0, .ref (Xd X 157)), (1, .int p1), (2, .int p2), (3, .int p3)] [] := by
  unfold f_X9_chosen at hf
  refine g_iconst C (v := (-1)) dX9_chosen_0 rfl ?_
  refine g_istore C (lv' := [(4, .int (-1 : Int32)), (0, .ref (Xd X 157)), (1, .int p1), (2, .int p2), (3, .int p3)]) dX9_chosen_1 (by decide) rfl ?_
  refine g_iconst C (v := (-1)) dX9_chosen_3 rfl ?_
  refine g_istore C (lv' := [(5, .int (-1 : Int32)), (4, .int (-1 : Int32)), (0, .ref (Xd X 157)), (1, .int p1), (2, .int p2), (3, .int p3)]) dX9_chosen_4 (by decide) rfl ?_
  refine g_iconst C (v := 0) dX9_chosen_6 rfl ?_
  refine g_istore C (lv' := [(6, .int (0 : Int32)), (5, .int (-1 : Int32)), (4, .int (-1 : Int32)), (0, .ref (Xd X 157)), (1, .int p1), (2, .int p2), (3, .int p3)]) dX9_chosen_7 (by decide) rfl ?_
  refine g_sub [3, 4, 5, 6, 2, 1, 0] rfl ?_
  exact wl_X9_chosen_9 (a := ((-1 : Int32), (-1 : Int32), (0 : Int32), σ)) C  hQ  hf
theorem c_X9_chosen (l : Launch) {Gw : gW} (hI : g_I Gw) {σ : sg} {p1 : Int32} {p2 : Int32} {p3 : Int32} {r : (Int32 × sg)}  (hf : f_X9_chosen σ p1 p2 p3 = some r) : gM l Gw yX9_chosen cX9_chosen 9 (some .int) rm_X9_chosen [.ref (Gw.2.2 157), .int p1, .int p2, .int p3] σ (qI (Gw) r.1 r.2) := by
  refine g_met hI (by decide) (Nat.le_of_ble_eq_true rfl) (fun X h1 h2 C hQ => ?_)
  subst h1; subst h2
  exact w_X9_chosen_e C  hQ hf
theorem dX9_packBlock_0 : decode cX9_packBlock 0 = .ok (.aload_n 0, 1) := by decide +kernel
theorem dX9_packBlock_1 : decode cX9_packBlock 1 = .ok (.getfield 26, 3) := by decide +kernel
theorem dX9_packBlock_4 : decode cX9_packBlock 4 = .ok (.iload_n 1, 1) := by decide +kernel
theorem dX9_packBlock_5 : decode cX9_packBlock 5 = .ok (.iaload, 1) := by decide +kernel
theorem dX9_packBlock_6 : decode cX9_packBlock 6 = .ok (.istore_n 2, 1) := by decide +kernel
theorem dX9_packBlock_7 : decode cX9_packBlock 7 = .ok (.aload_n 0, 1) := by decide +kernel
theorem dX9_packBlock_8 : decode cX9_packBlock 8 = .ok (.getfield 26, 3) := by decide +kernel
theorem dX9_packBlock_11 : decode cX9_packBlock 11 = .ok (.iload_n 1, 1) := by decide +kernel
theorem dX9_packBlock_12 : decode cX9_packBlock 12 = .ok (.iconst 1, 1) := by decide +kernel
theorem dX9_packBlock_13 : decode cX9_packBlock 13 = .ok (.iadd, 1) := by decide +kernel
theorem dX9_packBlock_14 : decode cX9_packBlock 14 = .ok (.iaload, 1) := by decide +kernel
theorem dX9_packBlock_15 : decode cX9_packBlock 15 = .ok (.istore_n 3, 1) := by decide +kernel
theorem dX9_packBlock_16 : decode cX9_packBlock 16 = .ok (.iconst 0, 1) := by decide +kernel
theorem dX9_packBlock_17 : decode cX9_packBlock 17 = .ok (.istore 4, 2) := by decide +kernel
theorem dX9_packBlock_19 : decode cX9_packBlock 19 = .ok (.iload_n 2, 1) := by decide +kernel
theorem dX9_packBlock_20 : decode cX9_packBlock 20 = .ok (.iload_n 3, 1) := by decide +kernel
theorem dX9_packBlock_21 : decode cX9_packBlock 21 = .ok (.if_icmp .ge 211, 3) := by decide +kernel
theorem dX9_packBlock_24 : decode cX9_packBlock 24 = .ok (.aload_n 0, 1) := by decide +kernel
theorem dX9_packBlock_25 : decode cX9_packBlock 25 = .ok (.getfield 178, 3) := by decide +kernel
theorem dX9_packBlock_28 : decode cX9_packBlock 28 = .ok (.bipush 60, 2) := by decide +kernel
theorem dX9_packBlock_30 : decode cX9_packBlock 30 = .ok (.if_icmp .ne 7, 3) := by decide +kernel
theorem dX9_packBlock_33 : decode cX9_packBlock 33 = .ok (.iconst (-1), 1) := by decide +kernel
theorem dX9_packBlock_34 : decode cX9_packBlock 34 = .ok (.goto 11, 3) := by decide +kernel
theorem dX9_packBlock_37 : decode cX9_packBlock 37 = .ok (.aload_n 0, 1) := by decide +kernel
theorem dX9_packBlock_38 : decode cX9_packBlock 38 = .ok (.iload_n 2, 1) := by decide +kernel
theorem dX9_packBlock_39 : decode cX9_packBlock 39 = .ok (.iload 4, 2) := by decide +kernel
theorem dX9_packBlock_41 : decode cX9_packBlock 41 = .ok (.iload_n 3, 1) := by decide +kernel
theorem dX9_packBlock_42 : decode cX9_packBlock 42 = .ok (.invokevirtual 181, 3) := by decide +kernel
theorem dX9_packBlock_45 : decode cX9_packBlock 45 = .ok (.istore 5, 2) := by decide +kernel
theorem dX9_packBlock_47 : decode cX9_packBlock 47 = .ok (.iload 5, 2) := by decide +kernel
theorem dX9_packBlock_49 : decode cX9_packBlock 49 = .ok (.ifCond .ge 5, 3) := by decide +kernel
theorem dX9_packBlock_52 : decode cX9_packBlock 52 = .ok (.iconst 0, 1) := by decide +kernel
theorem dX9_packBlock_53 : decode cX9_packBlock 53 = .ok (.ireturn, 1) := by decide +kernel
theorem dX9_packBlock_54 : decode cX9_packBlock 54 = .ok (.aload_n 0, 1) := by decide +kernel
theorem dX9_packBlock_55 : decode cX9_packBlock 55 = .ok (.iload 5, 2) := by decide +kernel
theorem dX9_packBlock_57 : decode cX9_packBlock 57 = .ok (.iload_n 2, 1) := by decide +kernel
theorem dX9_packBlock_58 : decode cX9_packBlock 58 = .ok (.iload 4, 2) := by decide +kernel
theorem dX9_packBlock_60 : decode cX9_packBlock 60 = .ok (.iload_n 3, 1) := by decide +kernel
theorem dX9_packBlock_61 : decode cX9_packBlock 61 = .ok (.invokevirtual 171, 3) := by decide +kernel
theorem dX9_packBlock_64 : decode cX9_packBlock 64 = .ok (.aload_n 0, 1) := by decide +kernel
theorem dX9_packBlock_65 : decode cX9_packBlock 65 = .ok (.getfield 163, 3) := by decide +kernel
theorem dX9_packBlock_68 : decode cX9_packBlock 68 = .ok (.ifCond .ne 15, 3) := by decide +kernel
theorem dX9_packBlock_71 : decode cX9_packBlock 71 = .ok (.aload_n 0, 1) := by decide +kernel
theorem dX9_packBlock_72 : decode cX9_packBlock 72 = .ok (.getfield 32, 3) := by decide +kernel
theorem dX9_packBlock_75 : decode cX9_packBlock 75 = .ok (.iload 5, 2) := by decide +kernel
theorem dX9_packBlock_77 : decode cX9_packBlock 77 = .ok (.iaload, 1) := by decide +kernel
theorem dX9_packBlock_78 : decode cX9_packBlock 78 = .ok (.ifCond .ne 5, 3) := by decide +kernel
theorem dX9_packBlock_81 : decode cX9_packBlock 81 = .ok (.iconst 0, 1) := by decide +kernel
theorem dX9_packBlock_82 : decode cX9_packBlock 82 = .ok (.ireturn, 1) := by decide +kernel
theorem dX9_packBlock_83 : decode cX9_packBlock 83 = .ok (.iconst 0, 1) := by decide +kernel
theorem dX9_packBlock_84 : decode cX9_packBlock 84 = .ok (.istore 6, 2) := by decide +kernel
theorem dX9_packBlock_86 : decode cX9_packBlock 86 = .ok (.iload 6, 2) := by decide +kernel
theorem dX9_packBlock_88 : decode cX9_packBlock 88 = .ok (.iconst 3, 1) := by decide +kernel
theorem dX9_packBlock_89 : decode cX9_packBlock 89 = .ok (.if_icmp .ge 98, 3) := by decide +kernel
theorem dX9_packBlock_92 : decode cX9_packBlock 92 = .ok (.aload_n 0, 1) := by decide +kernel
theorem dX9_packBlock_93 : decode cX9_packBlock 93 = .ok (.getfield 41, 3) := by decide +kernel
theorem dX9_packBlock_96 : decode cX9_packBlock 96 = .ok (.aload_n 0, 1) := by decide +kernel
theorem dX9_packBlock_97 : decode cX9_packBlock 97 = .ok (.getfield 178, 3) := by decide +kernel
theorem dX9_packBlock_100 : decode cX9_packBlock 100 = .ok (.aaload, 1) := by decide +kernel
theorem dX9_packBlock_101 : decode cX9_packBlock 101 = .ok (.iload 6, 2) := by decide +kernel
theorem dX9_packBlock_103 : decode cX9_packBlock 103 = .ok (.aload_n 0, 1) := by decide +kernel
theorem dX9_packBlock_104 : decode cX9_packBlock 104 = .ok (.getfield 38, 3) := by decide +kernel
theorem dX9_packBlock_107 : decode cX9_packBlock 107 = .ok (.iload 6, 2) := by decide +kernel
theorem dX9_packBlock_109 : decode cX9_packBlock 109 = .ok (.iaload, 1) := by decide +kernel
theorem dX9_packBlock_110 : decode cX9_packBlock 110 = .ok (.iastore, 1) := by decide +kernel
theorem dX9_packBlock_111 : decode cX9_packBlock 111 = .ok (.aload_n 0, 1) := by decide +kernel
theorem dX9_packBlock_112 : decode cX9_packBlock 112 = .ok (.getfield 38, 3) := by decide +kernel
theorem dX9_packBlock_115 : decode cX9_packBlock 115 = .ok (.iload 6, 2) := by decide +kernel
theorem dX9_packBlock_117 : decode cX9_packBlock 117 = .ok (.iaload, 1) := by decide +kernel
theorem dX9_packBlock_118 : decode cX9_packBlock 118 = .ok (.ifCond .lt 63, 3) := by decide +kernel
theorem dX9_packBlock_121 : decode cX9_packBlock 121 = .ok (.aload_n 0, 1) := by decide +kernel
theorem dX9_packBlock_122 : decode cX9_packBlock 122 = .ok (.getfield 44, 3) := by decide +kernel
theorem dX9_packBlock_125 : decode cX9_packBlock 125 = .ok (.aload_n 0, 1) := by decide +kernel
theorem dX9_packBlock_126 : decode cX9_packBlock 126 = .ok (.getfield 38, 3) := by decide +kernel
theorem dX9_packBlock_129 : decode cX9_packBlock 129 = .ok (.iload 6, 2) := by decide +kernel
theorem dX9_packBlock_131 : decode cX9_packBlock 131 = .ok (.iaload, 1) := by decide +kernel
theorem dX9_packBlock_132 : decode cX9_packBlock 132 = .ok (.aaload, 1) := by decide +kernel
theorem dX9_packBlock_133 : decode cX9_packBlock 133 = .ok (.iconst 0, 1) := by decide +kernel
theorem dX9_packBlock_134 : decode cX9_packBlock 134 = .ok (.aload_n 0, 1) := by decide +kernel
theorem dX9_packBlock_135 : decode cX9_packBlock 135 = .ok (.getfield 178, 3) := by decide +kernel
theorem dX9_packBlock_138 : decode cX9_packBlock 138 = .ok (.iastore, 1) := by decide +kernel
theorem dX9_packBlock_139 : decode cX9_packBlock 139 = .ok (.aload_n 0, 1) := by decide +kernel
theorem dX9_packBlock_140 : decode cX9_packBlock 140 = .ok (.getfield 44, 3) := by decide +kernel
theorem dX9_packBlock_143 : decode cX9_packBlock 143 = .ok (.aload_n 0, 1) := by decide +kernel
theorem dX9_packBlock_144 : decode cX9_packBlock 144 = .ok (.getfield 38, 3) := by decide +kernel
theorem dX9_packBlock_147 : decode cX9_packBlock 147 = .ok (.iload 6, 2) := by decide +kernel
theorem dX9_packBlock_149 : decode cX9_packBlock 149 = .ok (.iaload, 1) := by decide +kernel
theorem dX9_packBlock_150 : decode cX9_packBlock 150 = .ok (.aaload, 1) := by decide +kernel
theorem dX9_packBlock_151 : decode cX9_packBlock 151 = .ok (.iconst 1, 1) := by decide +kernel
theorem dX9_packBlock_152 : decode cX9_packBlock 152 = .ok (.iload 6, 2) := by decide +kernel
theorem dX9_packBlock_154 : decode cX9_packBlock 154 = .ok (.iastore, 1) := by decide +kernel
theorem dX9_packBlock_155 : decode cX9_packBlock 155 = .ok (.aload_n 0, 1) := by decide +kernel
theorem dX9_packBlock_156 : decode cX9_packBlock 156 = .ok (.getfield 44, 3) := by decide +kernel
theorem dX9_packBlock_159 : decode cX9_packBlock 159 = .ok (.aload_n 0, 1) := by decide +kernel
theorem dX9_packBlock_160 : decode cX9_packBlock 160 = .ok (.getfield 38, 3) := by decide +kernel
theorem dX9_packBlock_163 : decode cX9_packBlock 163 = .ok (.iload 6, 2) := by decide +kernel
theorem dX9_packBlock_165 : decode cX9_packBlock 165 = .ok (.iaload, 1) := by decide +kernel
theorem dX9_packBlock_166 : decode cX9_packBlock 166 = .ok (.aaload, 1) := by decide +kernel
theorem dX9_packBlock_167 : decode cX9_packBlock 167 = .ok (.iconst 2, 1) := by decide +kernel
theorem dX9_packBlock_168 : decode cX9_packBlock 168 = .ok (.aload_n 0, 1) := by decide +kernel
theorem dX9_packBlock_169 : decode cX9_packBlock 169 = .ok (.getfield 35, 3) := by decide +kernel
theorem dX9_packBlock_172 : decode cX9_packBlock 172 = .ok (.aload_n 0, 1) := by decide +kernel
theorem dX9_packBlock_173 : decode cX9_packBlock 173 = .ok (.getfield 38, 3) := by decide +kernel
theorem dX9_packBlock_176 : decode cX9_packBlock 176 = .ok (.iload 6, 2) := by decide +kernel
theorem dX9_packBlock_178 : decode cX9_packBlock 178 = .ok (.iaload, 1) := by decide +kernel
theorem dX9_packBlock_179 : decode cX9_packBlock 179 = .ok (.iaload, 1) := by decide +kernel
theorem dX9_packBlock_180 : decode cX9_packBlock 180 = .ok (.iastore, 1) := by decide +kernel
theorem dX9_packBlock_181 : decode cX9_packBlock 181 = .ok (.iinc 6 1, 3) := by decide +kernel
theorem dX9_packBlock_184 : decode cX9_packBlock 184 = .ok (.goto (-98), 3) := by decide +kernel
theorem dX9_packBlock_187 : decode cX9_packBlock 187 = .ok (.aload_n 0, 1) := by decide +kernel
theorem dX9_packBlock_188 : decode cX9_packBlock 188 = .ok (.getfield 47, 3) := by decide +kernel
theorem dX9_packBlock_191 : decode cX9_packBlock 191 = .ok (.aload_n 0, 1) := by decide +kernel
theorem dX9_packBlock_192 : decode cX9_packBlock 192 = .ok (.getfield 178, 3) := by decide +kernel
theorem dX9_packBlock_195 : decode cX9_packBlock 195 = .ok (.iload 5, 2) := by decide +kernel
theorem dX9_packBlock_197 : decode cX9_packBlock 197 = .ok (.iastore, 1) := by decide +kernel
theorem dX9_packBlock_198 : decode cX9_packBlock 198 = .ok (.aload_n 0, 1) := by decide +kernel
theorem dX9_packBlock_199 : decode cX9_packBlock 199 = .ok (.getfield 50, 3) := by decide +kernel
theorem dX9_packBlock_202 : decode cX9_packBlock 202 = .ok (.aload_n 0, 1) := by decide +kernel
theorem dX9_packBlock_203 : decode cX9_packBlock 203 = .ok (.getfield 178, 3) := by decide +kernel
theorem dX9_packBlock_206 : decode cX9_packBlock 206 = .ok (.iload_n 1, 1) := by decide +kernel
theorem dX9_packBlock_207 : decode cX9_packBlock 207 = .ok (.iastore, 1) := by decide +kernel
theorem dX9_packBlock_208 : decode cX9_packBlock 208 = .ok (.aload_n 0, 1) := by decide +kernel
theorem dX9_packBlock_209 : decode cX9_packBlock 209 = .ok (.dup, 1) := by decide +kernel
theorem dX9_packBlock_210 : decode cX9_packBlock 210 = .ok (.getfield 178, 3) := by decide +kernel
theorem dX9_packBlock_213 : decode cX9_packBlock 213 = .ok (.iconst 1, 1) := by decide +kernel
theorem dX9_packBlock_214 : decode cX9_packBlock 214 = .ok (.iadd, 1) := by decide +kernel
theorem dX9_packBlock_215 : decode cX9_packBlock 215 = .ok (.putfield 178, 3) := by decide +kernel
theorem dX9_packBlock_218 : decode cX9_packBlock 218 = .ok (.aload_n 0, 1) := by decide +kernel
theorem dX9_packBlock_219 : decode cX9_packBlock 219 = .ok (.getfield 157, 3) := by decide +kernel
theorem dX9_packBlock_222 : decode cX9_packBlock 222 = .ok (.istore_n 2, 1) := by decide +kernel
theorem dX9_packBlock_223 : decode cX9_packBlock 223 = .ok (.aload_n 0, 1) := by decide +kernel
theorem dX9_packBlock_224 : decode cX9_packBlock 224 = .ok (.getfield 160, 3) := by decide +kernel
theorem dX9_packBlock_227 : decode cX9_packBlock 227 = .ok (.istore 4, 2) := by decide +kernel
theorem dX9_packBlock_229 : decode cX9_packBlock 229 = .ok (.goto (-210), 3) := by decide +kernel
theorem dX9_packBlock_232 : decode cX9_packBlock 232 = .ok (.iconst 1, 1) := by decide +kernel
theorem dX9_packBlock_233 : decode cX9_packBlock 233 = .ok (.ireturn, 1) := by decide +kernel
abbrev rm_X9_packBlock : Room := { frames := 6, cells := 0, slots := 0, locals := 151 }
theorem w_X9_packBlock_181 {X : gX} {p1 : Int32} {x3 : Int32} {x5 : Int32} {x6 : Int32} {σ : sg} {r0 : (Int32 × sg)} {r1 : ((Int32 × Int32 × sg) ⊕ (Int32 × sg))} {r2 : ((Int32 × sg) ⊕ ((Int32 × Int32 × sg) ⊕ (Int32 × sg)))} (C : gC X cX9_packBlock 7 RX9 (some .boolean) rm_X9_packBlock)  (hQ : gQ X (qI (XG X) r0.1 r0.2)) (A1 : ∀ b, r1 = .inl b → G X 7 b.2.2 19 [(0, .ref (Xd X 157)), (1, .int p1), (2, .int b.1), (3, .int x3), (4, .int b.2.1)] []) (B1 : ∀ b, r1 = .inr b → b = r0) (A2 : ∀ b, r2 = .inl b → G X 7 b.2 86 [(0, .ref (Xd X 157)), (1, .int p1), (3, .int x3), (5, .int x5), (6, .int b.1)] []) (B2 : ∀ b, r2 = .inr b → b = r1) (hf : J_X9_packBlock_181 p1 x3 x5 x6 σ = some r2) : G X 7 σ 181 [(0, .ref (Xd X 157)), (1, .int p1), (3, .int x3), (5, .int x5), (6, .int x6)] [] := by
  unfold J_X9_packBlock_181 at hf
  refine g_iinc C (v := x6 + (1 : Int32)) (lv' := [(6, .int (x6 + (1 : Int32))), (0, .ref (Xd X 157)), (1, .int p1), (3, .int x3), (5, .int x5)]) 4 dX9_packBlock_181 rfl rfl (by decide) rfl ?_
  refine g_goto C 86 dX9_packBlock_184 (by decide) ?_
  refine g_sub [1, 2, 3, 4, 0] rfl ?_
  exact A2 (x6 + (1 : Int32), σ) (Option.some.inj hf).symm
theorem w_X9_packBlock_86 {X : gX} {p1 : Int32} {x3 : Int32} {x5 : Int32} {x6 : Int32} {σ : sg} {r0 : (Int32 × sg)} {r1 : ((Int32 × Int32 × sg) ⊕ (Int32 × sg))} {r2 : ((Int32 × sg) ⊕ ((Int32 × Int32 × sg) ⊕ (Int32 × sg)))} (C : gC X cX9_packBlock 7 RX9 (some .boolean) rm_X9_packBlock)  (hQ : gQ X (qI (XG X) r0.1 r0.2)) (A1 : ∀ b, r1 = .inl b → G X 7 b.2.2 19 [(0, .ref (Xd X 157)), (1, .int p1), (2, .int b.1), (3, .int x3), (4, .int b.2.1)] []) (B1 : ∀ b, r1 = .inr b → b = r0) (A2 : ∀ b, r2 = .inl b → G X 7 b.2 86 [(0, .ref (Xd X 157)), (1, .int p1), (3, .int x3), (5, .int x5), (6, .int b.1)] []) (B2 : ∀ b, r2 = .inr b → b = r1) (hf : B_X9_packBlock_86 p1 x3 x5 x6 σ = some r2) : G X 7 σ 86 [(0, .ref (Xd X 157)), (1, .int p1), (3, .int x3), (5, .int x5), (6, .int x6)] [] := by
  unfold B_X9_packBlock_86 at hf
  refine g_iload C 4 dX9_packBlock_86 rfl ?_
  refine g_iconst C (v := 3) dX9_packBlock_88 rfl ?_
  refine g_icmp_ge C 187 hf dX9_packBlock_89 (by decide) (fun hf => ?_) (fun hf => ?_)
  · refine g_aload_n C 0 dX9_packBlock_187 rfl ?_
    refine g_getr C 9 20 (727) (by decide) sh_157 rfl vc_9 (by decide) inXX9 wfl_681 dX9_packBlock_188 ?_
    refine g_aload_n C 0 dX9_packBlock_191 rfl ?_
    refine g_geti C 9 17 (by decide) sh_157 rfl vc_9 (by decide) inXX9 wfl_678 dX9_packBlock_192 ?_
    refine g_iload C 3 dX9_packBlock_195 rfl ?_
    obtain ⟨s197, h1, hf⟩ := g_bind hf
    refine g_iast C h1 dX9_packBlock_197 ?_
    clear h1
    refine g_aload_n C 0 dX9_packBlock_198 rfl ?_
    refine g_getr C 9 21 (728) (by decide) sh_157 rfl vc_9 (by decide) inXX9 wfl_682 dX9_packBlock_199 ?_
    refine g_aload_n C 0 dX9_packBlock_202 rfl ?_
    refine g_geti C 9 17 (by decide) sh_157 rfl vc_9 (by decide) inXX9 wfl_678 dX9_packBlock_203 ?_
    refine g_iload_n C 1 dX9_packBlock_206 rfl ?_
    obtain ⟨s207, h1, hf⟩ := g_bind hf
    refine g_iast C h1 dX9_packBlock_207 ?_
    clear h1
    refine g_aload_n C 0 dX9_packBlock_208 rfl ?_
    refine g_dup C dX9_packBlock_209 rfl ?_
    refine g_geti C 9 17 (by decide) sh_157 rfl vc_9 (by decide) inXX9 wfl_678 dX9_packBlock_210 ?_
    refine g_iconst C (v := 1) dX9_packBlock_213 rfl ?_
    refine g_iadd C dX9_packBlock_214 ?_
    obtain ⟨s215, h1, hf⟩ := g_bind hf
    refine g_put C 9 17 (by decide) sh_157 rfl (by decide) vc_9 (by decide) tyX9 tyX9_ok nmX9 inXX9 wfl_678 rfl (ty := .int) (by decide +kernel) rfl rfl dX9_packBlock_215 ?_
    rw [Option.some.inj h1]
    clear h1
    refine g_aload_n C 0 dX9_packBlock_218 rfl ?_
    refine g_geti C 9 13 (by decide) sh_157 rfl vc_9 (by decide) inXX9 wfl_674 dX9_packBlock_219 ?_
    refine g_istore_n C (lv' := [(2, .int (s215 157 13)), (0, .ref (Xd X 157)), (1, .int p1), (3, .int x3), (5, .int x5), (6, .int x6)]) dX9_packBlock_222 (by decide) rfl ?_
    refine g_aload_n C 1 dX9_packBlock_223 rfl ?_
    refine g_geti C 9 14 (by decide) sh_157 rfl vc_9 (by decide) inXX9 wfl_675 dX9_packBlock_224 ?_
    refine g_istore C (lv' := [(4, .int (s215 157 14)), (2, .int (s215 157 13)), (0, .ref (Xd X 157)), (1, .int p1), (3, .int x3), (5, .int x5), (6, .int x6)]) dX9_packBlock_227 (by decide) rfl ?_
    refine g_goto C 19 dX9_packBlock_229 (by decide) ?_
    refine g_sub [2, 3, 1, 4, 0] rfl ?_
    exact A1 (s215 157 13, s215 157 14, s215) (B2 _ (Option.some.inj hf).symm).symm
  · refine g_aload_n C 0 dX9_packBlock_92 rfl ?_
    refine g_getr C 9 18 (625) (by decide) sh_157 rfl vc_9 (by decide) inXX9 wfl_679 dX9_packBlock_93 ?_
    refine g_aload_n C 0 dX9_packBlock_96 rfl ?_
    refine g_geti C 9 17 (by decide) sh_157 rfl vc_9 (by decide) inXX9 wfl_678 dX9_packBlock_97 ?_
    obtain ⟨q100, h1, hf⟩ := g_bind hf
    refine g_aald C h1 dX9_packBlock_100 ?_
    clear h1
    refine g_iload C 4 dX9_packBlock_101 rfl ?_
    refine g_aload_n C 0 dX9_packBlock_103 rfl ?_
    refine g_getr C 9 12 (624) (by decide) sh_157 rfl vc_9 (by decide) inXX9 wfl_673 dX9_packBlock_104 ?_
    refine g_iload C 4 dX9_packBlock_107 rfl ?_
    obtain ⟨v109, h1, hf⟩ := g_bind hf
    refine g_iald C h1 dX9_packBlock_109 ?_
    clear h1
    obtain ⟨s110, h1, hf⟩ := g_bind hf
    refine g_iast C h1 dX9_packBlock_110 ?_
    clear h1
    refine g_aload_n C 0 dX9_packBlock_111 rfl ?_
    refine g_getr C 9 12 (624) (by decide) sh_157 rfl vc_9 (by decide) inXX9 wfl_673 dX9_packBlock_112 ?_
    refine g_iload C 4 dX9_packBlock_115 rfl ?_
    obtain ⟨v117, h1, hf⟩ := g_bind hf
    refine g_iald C h1 dX9_packBlock_117 ?_
    clear h1
    refine g_if_lt C 181 hf dX9_packBlock_118 (by decide) (fun hf => ?_) (fun hf => ?_)
    · exact w_X9_packBlock_181 C  hQ A1 B1 A2 B2 hf
    · refine g_aload_n C 0 dX9_packBlock_121 rfl ?_
      refine g_getr C 9 19 (686) (by decide) sh_157 rfl vc_9 (by decide) inXX9 wfl_680 dX9_packBlock_122 ?_
      refine g_aload_n C 0 dX9_packBlock_125 rfl ?_
      refine g_getr C 9 12 (624) (by decide) sh_157 rfl vc_9 (by decide) inXX9 wfl_673 dX9_packBlock_126 ?_
      refine g_iload C 4 dX9_packBlock_129 rfl ?_
      obtain ⟨v131, h1, hf⟩ := g_bind hf
      refine g_iald C h1 dX9_packBlock_131 ?_
      clear h1
      obtain ⟨q132, h1, hf⟩ := g_bind hf
      refine g_aald C h1 dX9_packBlock_132 ?_
      clear h1
      refine g_iconst C (v := 0) dX9_packBlock_133 rfl ?_
      refine g_aload_n C 0 dX9_packBlock_134 rfl ?_
      refine g_geti C 9 17 (by decide) sh_157 rfl vc_9 (by decide) inXX9 wfl_678 dX9_packBlock_135 ?_
      obtain ⟨s138, h1, hf⟩ := g_bind hf
      refine g_iast C h1 dX9_packBlock_138 ?_
      clear h1
      refine g_aload_n C 0 dX9_packBlock_139 rfl ?_
      refine g_getr C 9 19 (686) (by decide) sh_157 rfl vc_9 (by decide) inXX9 wfl_680 dX9_packBlock_140 ?_
      refine g_aload_n C 0 dX9_packBlock_143 rfl ?_
      refine g_getr C 9 12 (624) (by decide) sh_157 rfl vc_9 (by decide) inXX9 wfl_673 dX9_packBlock_144 ?_
      refine g_iload C 4 dX9_packBlock_147 rfl ?_
      obtain ⟨v149, h1, hf⟩ := g_bind hf
      refine g_iald C h1 dX9_packBlock_149 ?_
      clear h1
      obtain ⟨q150, h1, hf⟩ := g_bind hf
      refine g_aald C h1 dX9_packBlock_150 ?_
      clear h1
      refine g_iconst C (v := 1) dX9_packBlock_151 rfl ?_
      refine g_iload C 4 dX9_packBlock_152 rfl ?_
      obtain ⟨s154, h1, hf⟩ := g_bind hf
      refine g_iast C h1 dX9_packBlock_154 ?_
      clear h1
      refine g_aload_n C 0 dX9_packBlock_155 rfl ?_
      refine g_getr C 9 19 (686) (by decide) sh_157 rfl vc_9 (by decide) inXX9 wfl_680 dX9_packBlock_156 ?_
      refine g_aload_n C 0 dX9_packBlock_159 rfl ?_
      refine g_getr C 9 12 (624) (by decide) sh_157 rfl vc_9 (by decide) inXX9 wfl_673 dX9_packBlock_160 ?_
      refine g_iload C 4 dX9_packBlock_163 rfl ?_
      obtain ⟨v165, h1, hf⟩ := g_bind hf
      refine g_iald C h1 dX9_packBlock_165 ?_
      clear h1
      obtain ⟨q166, h1, hf⟩ := g_bind hf
      refine g_aald C h1 dX9_packBlock_166 ?_
      clear h1
      refine g_iconst C (v := 2) dX9_packBlock_167 rfl ?_
      refine g_aload_n C 0 dX9_packBlock_168 rfl ?_
      refine g_getr C 9 11 (623) (by decide) sh_157 rfl vc_9 (by decide) inXX9 wfl_672 dX9_packBlock_169 ?_
      refine g_aload_n C 0 dX9_packBlock_172 rfl ?_
      refine g_getr C 9 12 (624) (by decide) sh_157 rfl vc_9 (by decide) inXX9 wfl_673 dX9_packBlock_173 ?_
      refine g_iload C 4 dX9_packBlock_176 rfl ?_
      obtain ⟨v178, h1, hf⟩ := g_bind hf
      refine g_iald C h1 dX9_packBlock_178 ?_
      clear h1
      obtain ⟨v179, h1, hf⟩ := g_bind hf
      refine g_iald C h1 dX9_packBlock_179 ?_
      clear h1
      obtain ⟨s180, h1, hf⟩ := g_bind hf
      refine g_iast C h1 dX9_packBlock_180 ?_
      clear h1
      exact w_X9_packBlock_181 C  hQ A1 B1 A2 B2 hf
theorem wl_X9_packBlock_86 {X : gX} {p1 : Int32} {x3 : Int32} {x5 : Int32} {r0 : (Int32 × sg)} {r1 : ((Int32 × Int32 × sg) ⊕ (Int32 × sg))} (C : gC X cX9_packBlock 7 RX9 (some .boolean) rm_X9_packBlock)  (hQ : gQ X (qI (XG X) r0.1 r0.2)) (A1 : ∀ b, r1 = .inl b → G X 7 b.2.2 19 [(0, .ref (Xd X 157)), (1, .int p1), (2, .int b.1), (3, .int x3), (4, .int b.2.1)] []) (B1 : ∀ b, r1 = .inr b → b = r0) {n : Nat} {a : (Int32 × sg)} (hf : L_X9_packBlock_86 p1 x3 x5 n a = some r1) : G X 7 a.2 86 [(0, .ref (Xd X 157)), (1, .int p1), (3, .int x3), (5, .int x5), (6, .int a.1)] [] := by
  unfold L_X9_packBlock_86 at hf
  have key := g_loop_ind (res := r1) (f := fun a => B_X9_packBlock_86 p1 x3 x5 a.1 a.2) (P := fun a => G X 7 a.2 86 [(0, .ref (Xd X 157)), (1, .int p1), (3, .int x3), (5, .int x5), (6, .int a.1)] []) (fun a r2 h1 k1 k2 => w_X9_packBlock_86 (x6 := a.1) (σ := a.2) C  hQ A1 B1 k1 k2 h1)
  exact key n a hf
theorem w_X9_packBlock_83 {X : gX} {p1 : Int32} {x3 : Int32} {x5 : Int32} {σ : sg} {r0 : (Int32 × sg)} {r1 : ((Int32 × Int32 × sg) ⊕ (Int32 × sg))} (C : gC X cX9_packBlock 7 RX9 (some .boolean) rm_X9_packBlock)  (hQ : gQ X (qI (XG X) r0.1 r0.2)) (A1 : ∀ b, r1 = .inl b → G X 7 b.2.2 19 [(0, .ref (Xd X 157)), (1, .int p1), (2, .int b.1), (3, .int x3), (4, .int b.2.1)] []) (B1 : ∀ b, r1 = .inr b → b = r0) (hf : J_X9_packBlock_83 p1 x3 x5 σ = some r1) : G X 7 σ 83 [(0, .ref (Xd X 157)), (1, .int p1), (3, .int x3), (5, .int x5)] [] := by
  unfold J_X9_packBlock_83 at hf
  refine g_iconst C (v := 0) dX9_packBlock_83 rfl ?_
  refine g_istore C (lv' := [(6, .int (0 : Int32)), (0, .ref (Xd X 157)), (1, .int p1), (3, .int x3), (5, .int x5)]) dX9_packBlock_84 (by decide) rfl ?_
  refine g_sub [1, 2, 3, 4, 0] rfl ?_
  exact wl_X9_packBlock_86 (a := ((0 : Int32), σ)) C  hQ A1 B1 hf
theorem w_X9_packBlock_45 {X : gX} {p1 : Int32} {x2 : Int32} {x3 : Int32} {x4 : Int32} {t0 : Int32} {σ : sg} {r0 : (Int32 × sg)} {r1 : ((Int32 × Int32 × sg) ⊕ (Int32 × sg))} (C : gC X cX9_packBlock 7 RX9 (some .boolean) rm_X9_packBlock)  (hQ : gQ X (qI (XG X) r0.1 r0.2)) (A1 : ∀ b, r1 = .inl b → G X 7 b.2.2 19 [(0, .ref (Xd X 157)), (1, .int p1), (2, .int b.1), (3, .int x3), (4, .int b.2.1)] []) (B1 : ∀ b, r1 = .inr b → b = r0) (hf : J_X9_packBlock_45 p1 x2 x3 x4 t0 σ = some r1) : G X 7 σ 45 [(0, .ref (Xd X 157)), (1, .int p1), (2, .int x2), (3, .int x3), (4, .int x4)] [.int t0] := by
  unfold J_X9_packBlock_45 at hf
  refine g_istore C (lv' := [(5, .int t0), (0, .ref (Xd X 157)), (1, .int p1), (2, .int x2), (3, .int x3), (4, .int x4)]) dX9_packBlock_45 (by decide) rfl ?_
  refine g_iload C 0 dX9_packBlock_47 rfl ?_
  refine g_if_ge C 54 hf dX9_packBlock_49 (by decide) (fun hf => ?_) (fun hf => ?_)
  · refine g_aload_n C 1 dX9_packBlock_54 rfl ?_
    refine g_iload C 0 dX9_packBlock_55 rfl ?_
    refine g_iload_n C 3 dX9_packBlock_57 rfl ?_
    refine g_iload C 5 dX9_packBlock_58 rfl ?_
    refine g_iload_n C 4 dX9_packBlock_60 rfl ?_
    obtain ⟨s61, h1, hf⟩ := g_bind hf
    refine g_callVv C 4 [.int t0, .int x2, .int x4, .int x3] (c_X9_fill (Xl X) (gC_I C)  h1) ⟨wml_899, wim_901, wsp_27, win_10, wcd_902⟩ (by decide) sh_157 vc_9 rfl hd_X9_fill ⟨rfl, rfl⟩ ⟨Nat.le_of_ble_eq_true rfl, Nat.le_of_ble_eq_true rfl⟩ rfl rfl (Nat.le_of_ble_eq_true rfl) dX9_packBlock_61 ?_
    clear h1
    refine g_aload_n C 1 dX9_packBlock_64 rfl ?_
    refine g_geti C 9 15 (by decide) sh_157 rfl vc_9 (by decide) inXX9 wfl_676 dX9_packBlock_65 ?_
    refine g_if_ne C 83 hf dX9_packBlock_68 (by decide) (fun hf => ?_) (fun hf => ?_)
    · refine g_aload_n C 1 dX9_packBlock_71 rfl ?_
      refine g_getr C 9 10 (622) (by decide) sh_157 rfl vc_9 (by decide) inXX9 wfl_671 dX9_packBlock_72 ?_
      refine g_iload C 0 dX9_packBlock_75 rfl ?_
      obtain ⟨v77, h1, hf⟩ := g_bind hf
      refine g_iald C h1 dX9_packBlock_77 ?_
      clear h1
      refine g_if_ne C 83 hf dX9_packBlock_78 (by decide) (fun hf => ?_) (fun hf => ?_)
      · refine g_iconst C (v := 0) dX9_packBlock_81 rfl ?_
        have e0 : r0 = ((0 : Int32), s61) := (B1 _ (Option.some.inj hf).symm).symm
        exact g_iret C rfl hQ (by rw [e0]) rfl dX9_packBlock_82
      · refine g_sub [1, 2, 4, 0] rfl ?_
        exact w_X9_packBlock_83 C  hQ A1 B1 hf
    · refine g_sub [1, 2, 4, 0] rfl ?_
      exact w_X9_packBlock_83 C  hQ A1 B1 hf
  · refine g_iconst C (v := 0) dX9_packBlock_52 rfl ?_
    have e0 : r0 = ((0 : Int32), σ) := (B1 _ (Option.some.inj hf).symm).symm
    exact g_iret C rfl hQ (by rw [e0]) rfl dX9_packBlock_53
theorem w_X9_packBlock_19 {X : gX} {p1 : Int32} {x3 : Int32} {x2 : Int32} {x4 : Int32} {σ : sg} {r0 : (Int32 × sg)} {r1 : ((Int32 × Int32 × sg) ⊕ (Int32 × sg))} (C : gC X cX9_packBlock 7 RX9 (some .boolean) rm_X9_packBlock)  (hQ : gQ X (qI (XG X) r0.1 r0.2)) (A1 : ∀ b, r1 = .inl b → G X 7 b.2.2 19 [(0, .ref (Xd X 157)), (1, .int p1), (2, .int b.1), (3, .int x3), (4, .int b.2.1)] []) (B1 : ∀ b, r1 = .inr b → b = r0) (hf : B_X9_packBlock_19 p1 x3 x2 x4 σ = some r1) : G X 7 σ 19 [(0, .ref (Xd X 157)), (1, .int p1), (2, .int x2), (3, .int x3), (4, .int x4)] [] := by
  unfold B_X9_packBlock_19 at hf
  refine g_iload_n C 2 dX9_packBlock_19 rfl ?_
  refine g_iload_n C 3 dX9_packBlock_20 rfl ?_
  refine g_icmp_ge C 232 hf dX9_packBlock_21 (by decide) (fun hf => ?_) (fun hf => ?_)
  · refine g_iconst C (v := 1) dX9_packBlock_232 rfl ?_
    have e0 : r0 = ((1 : Int32), σ) := (B1 _ (Option.some.inj hf).symm).symm
    exact g_iret C rfl hQ (by rw [e0]) rfl dX9_packBlock_233
  · refine g_aload_n C 0 dX9_packBlock_24 rfl ?_
    refine g_geti C 9 17 (by decide) sh_157 rfl vc_9 (by decide) inXX9 wfl_678 dX9_packBlock_25 ?_
    refine g_bipush C (v := 60) dX9_packBlock_28 rfl ?_
    refine g_icmp_ne C 37 hf dX9_packBlock_30 (by decide) (fun hf => ?_) (fun hf => ?_)
    · refine g_iconst C (v := (-1)) dX9_packBlock_33 rfl ?_
      refine g_goto C 45 dX9_packBlock_34 (by decide) ?_
      exact w_X9_packBlock_45 C  hQ A1 B1 hf
    · refine g_aload_n C 0 dX9_packBlock_37 rfl ?_
      refine g_iload_n C 2 dX9_packBlock_38 rfl ?_
      refine g_iload C 4 dX9_packBlock_39 rfl ?_
      refine g_iload_n C 3 dX9_packBlock_41 rfl ?_
      obtain ⟨q42, h1, hf⟩ := g_bind hf
      refine g_callVi C 3 [.int x2, .int x4, .int x3] (c_X9_chosen (Xl X) (gC_I C)  h1) ⟨wml_895, wim_897, wsp_26, win_10, wcd_898⟩ (by decide) sh_157 vc_9 rfl hd_X9_chosen ⟨rfl, rfl⟩ ⟨Nat.le_of_ble_eq_true rfl, Nat.le_of_ble_eq_true rfl⟩ rfl rfl (Nat.le_of_ble_eq_true rfl) dX9_packBlock_42 ?_
      clear h1
      exact w_X9_packBlock_45 C  hQ A1 B1 hf
theorem wl_X9_packBlock_19 {X : gX} {p1 : Int32} {x3 : Int32} {r0 : (Int32 × sg)} (C : gC X cX9_packBlock 7 RX9 (some .boolean) rm_X9_packBlock)  (hQ : gQ X (qI (XG X) r0.1 r0.2))  {n : Nat} {a : (Int32 × Int32 × sg)} (hf : L_X9_packBlock_19 p1 x3 n a = some r0) : G X 7 a.2.2 19 [(0, .ref (Xd X 157)), (1, .int p1), (2, .int a.1), (3, .int x3), (4, .int a.2.1)] [] := by
  unfold L_X9_packBlock_19 at hf
  have key := g_loop_ind (res := r0) (f := fun a => B_X9_packBlock_19 p1 x3 a.1 a.2.1 a.2.2) (P := fun a => G X 7 a.2.2 19 [(0, .ref (Xd X 157)), (1, .int p1), (2, .int a.1), (3, .int x3), (4, .int a.2.1)] []) (fun a r1 h1 k1 k2 => w_X9_packBlock_19 (x2 := a.1) (x4 := a.2.1) (σ := a.2.2) C  hQ  k1 k2 h1)
  exact key n a hf
theorem w_X9_packBlock_e {X : gX} {σ : sg} {p1 : Int32} {r0 : (Int32 × sg)} (C : gC X cX9_packBlock 7 RX9 (some .boolean) rm_X9_packBlock)  (hQ : gQ X (qI (XG X) r0.1 r0.2)) (hf : f_X9_packBlock σ p1 = some r0) : G X 7 σ 0 [(0, .ref (Xd X 157)), (1, .int p1)] [] := by
  unfold f_X9_packBlock at hf
  refine g_aload_n C 0 dX9_packBlock_0 rfl ?_
  refine g_getr C 9 6 (612) (by decide) sh_157 rfl vc_9 (by decide) inXX9 wfl_667 dX9_packBlock_1 ?_
  refine g_iload_n C 1 dX9_packBlock_4 rfl ?_
  obtain ⟨v5, h1, hf⟩ := g_bind hf
  refine g_iald C h1 dX9_packBlock_5 ?_
  clear h1
  refine g_istore_n C (lv' := [(2, .int v5), (0, .ref (Xd X 157)), (1, .int p1)]) dX9_packBlock_6 (by decide) rfl ?_
  refine g_aload_n C 1 dX9_packBlock_7 rfl ?_
  refine g_getr C 9 6 (612) (by decide) sh_157 rfl vc_9 (by decide) inXX9 wfl_667 dX9_packBlock_8 ?_
  refine g_iload_n C 2 dX9_packBlock_11 rfl ?_
  refine g_iconst C (v := 1) dX9_packBlock_12 rfl ?_
  refine g_iadd C dX9_packBlock_13 ?_
  obtain ⟨v14, h1, hf⟩ := g_bind hf
  refine g_iald C h1 dX9_packBlock_14 ?_
  clear h1
  refine g_istore_n C (lv' := [(3, .int v14), (2, .int v5), (0, .ref (Xd X 157)), (1, .int p1)]) dX9_packBlock_15 (by decide) rfl ?_
  refine g_iconst C (v := 0) dX9_packBlock_16 rfl ?_
  refine g_istore C (lv' := [(4, .int (0 : Int32)), (3, .int v14), (2, .int v5), (0, .ref (Xd X 157)), (1, .int p1)]) dX9_packBlock_17 (by decide) rfl ?_
  refine g_sub [3, 4, 2, 1, 0] rfl ?_
  exact wl_X9_packBlock_19 (a := (v5, (0 : Int32), σ)) C  hQ  hf
theorem c_X9_packBlock (l : Launch) {Gw : gW} (hI : g_I Gw) {σ : sg} {p1 : Int32} {r : (Int32 × sg)}  (hf : f_X9_packBlock σ p1 = some r) : gM l Gw yX9_packBlock cX9_packBlock 7 (some .boolean) rm_X9_packBlock [.ref (Gw.2.2 157), .int p1] σ (qI (Gw) r.1 r.2) := by
  refine g_met hI (by decide) (Nat.le_of_ble_eq_true rfl) (fun X h1 h2 C hQ => ?_)
  subst h1; subst h2
  exact w_X9_packBlock_e C  hQ hf
theorem dX9_pack_0 : decode cX9_pack 0 = .ok (.aload_n 0, 1) := by decide +kernel
theorem dX9_pack_1 : decode cX9_pack 1 = .ok (.invokevirtual 140, 3) := by decide +kernel
theorem dX9_pack_4 : decode cX9_pack 4 = .ok (.ifCond .ne 6, 3) := by decide +kernel
theorem dX9_pack_7 : decode cX9_pack 7 = .ok (.bipush (-6), 2) := by decide +kernel
theorem dX9_pack_9 : decode cX9_pack 9 = .ok (.ireturn, 1) := by decide +kernel
theorem dX9_pack_10 : decode cX9_pack 10 = .ok (.aload_n 0, 1) := by decide +kernel
theorem dX9_pack_11 : decode cX9_pack 11 = .ok (.invokevirtual 144, 3) := by decide +kernel
theorem dX9_pack_14 : decode cX9_pack 14 = .ok (.aload_n 0, 1) := by decide +kernel
theorem dX9_pack_15 : decode cX9_pack 15 = .ok (.iconst 0, 1) := by decide +kernel
theorem dX9_pack_16 : decode cX9_pack 16 = .ok (.putfield 178, 3) := by decide +kernel
theorem dX9_pack_19 : decode cX9_pack 19 = .ok (.aload_n 0, 1) := by decide +kernel
theorem dX9_pack_20 : decode cX9_pack 20 = .ok (.iconst 1, 1) := by decide +kernel
theorem dX9_pack_21 : decode cX9_pack 21 = .ok (.putfield 100, 3) := by decide +kernel
theorem dX9_pack_24 : decode cX9_pack 24 = .ok (.iconst 0, 1) := by decide +kernel
theorem dX9_pack_25 : decode cX9_pack 25 = .ok (.istore_n 1, 1) := by decide +kernel
theorem dX9_pack_26 : decode cX9_pack 26 = .ok (.iload_n 1, 1) := by decide +kernel
theorem dX9_pack_27 : decode cX9_pack 27 = .ok (.aload_n 0, 1) := by decide +kernel
theorem dX9_pack_28 : decode cX9_pack 28 = .ok (.getfield 134, 3) := by decide +kernel
theorem dX9_pack_31 : decode cX9_pack 31 = .ok (.if_icmp .ge 25, 3) := by decide +kernel
theorem dX9_pack_34 : decode cX9_pack 34 = .ok (.aload_n 0, 1) := by decide +kernel
theorem dX9_pack_35 : decode cX9_pack 35 = .ok (.getfield 100, 3) := by decide +kernel
theorem dX9_pack_38 : decode cX9_pack 38 = .ok (.ifCond .eq 18, 3) := by decide +kernel
theorem dX9_pack_41 : decode cX9_pack 41 = .ok (.aload_n 0, 1) := by decide +kernel
theorem dX9_pack_42 : decode cX9_pack 42 = .ok (.aload_n 0, 1) := by decide +kernel
theorem dX9_pack_43 : decode cX9_pack 43 = .ok (.iload_n 1, 1) := by decide +kernel
theorem dX9_pack_44 : decode cX9_pack 44 = .ok (.invokevirtual 185, 3) := by decide +kernel
theorem dX9_pack_47 : decode cX9_pack 47 = .ok (.putfield 100, 3) := by decide +kernel
theorem dX9_pack_50 : decode cX9_pack 50 = .ok (.iinc 1 1, 3) := by decide +kernel
theorem dX9_pack_53 : decode cX9_pack 53 = .ok (.goto (-27), 3) := by decide +kernel
theorem dX9_pack_56 : decode cX9_pack 56 = .ok (.aload_n 0, 1) := by decide +kernel
theorem dX9_pack_57 : decode cX9_pack 57 = .ok (.getfield 100, 3) := by decide +kernel
theorem dX9_pack_60 : decode cX9_pack 60 = .ok (.ifCond .eq 10, 3) := by decide +kernel
theorem dX9_pack_63 : decode cX9_pack 63 = .ok (.aload_n 0, 1) := by decide +kernel
theorem dX9_pack_64 : decode cX9_pack 64 = .ok (.getfield 178, 3) := by decide +kernel
theorem dX9_pack_67 : decode cX9_pack 67 = .ok (.goto 5, 3) := by decide +kernel
theorem dX9_pack_70 : decode cX9_pack 70 = .ok (.bipush (-8), 2) := by decide +kernel
theorem dX9_pack_72 : decode cX9_pack 72 = .ok (.ireturn, 1) := by decide +kernel
abbrev rm_X9_pack : Room := { frames := 7, cells := 0, slots := 0, locals := 177 }
theorem w_X9_pack_56 {X : gX} {σ : sg} {r0 : (Int32 × sg)} (C : gC X cX9_pack 2 RX9 (some .int) rm_X9_pack)  (hQ : gQ X (qI (XG X) r0.1 r0.2))  (hf : J_X9_pack_56 σ = some r0) : G X 2 σ 56 [(0, .ref (Xd X 157))] [] := by
  unfold J_X9_pack_56 at hf
  refine g_aload_n C 0 dX9_pack_56 rfl ?_
  refine g_geti C 9 16 (by decide) sh_157 rfl vc_9 (by decide) inXX9 wfl_677 dX9_pack_57 ?_
  refine g_if_eq C 70 hf dX9_pack_60 (by decide) (fun hf => ?_) (fun hf => ?_)
  · refine g_bipush C (v := (-8)) dX9_pack_70 rfl ?_
    have e0 : r0 = ((-8 : Int32), σ) := (Option.some.inj hf).symm
    exact g_iret C rfl hQ (by rw [e0]) rfl dX9_pack_72
  · refine g_aload_n C 0 dX9_pack_63 rfl ?_
    refine g_geti C 9 17 (by decide) sh_157 rfl vc_9 (by decide) inXX9 wfl_678 dX9_pack_64 ?_
    refine g_goto C 72 dX9_pack_67 (by decide) ?_
    have e0 : r0 = (σ 157 17, σ) := (Option.some.inj hf).symm
    exact g_iret C rfl hQ (by rw [e0]) rfl dX9_pack_72
theorem w_X9_pack_26 {X : gX} {x1 : Int32} {σ : sg} {r0 : (Int32 × sg)} {r1 : ((Int32 × sg) ⊕ (Int32 × sg))} (C : gC X cX9_pack 2 RX9 (some .int) rm_X9_pack)  (hQ : gQ X (qI (XG X) r0.1 r0.2)) (A1 : ∀ b, r1 = .inl b → G X 2 b.2 26 [(0, .ref (Xd X 157)), (1, .int b.1)] []) (B1 : ∀ b, r1 = .inr b → b = r0) (hf : B_X9_pack_26 x1 σ = some r1) : G X 2 σ 26 [(0, .ref (Xd X 157)), (1, .int x1)] [] := by
  unfold B_X9_pack_26 at hf
  refine g_iload_n C 1 dX9_pack_26 rfl ?_
  refine g_aload_n C 0 dX9_pack_27 rfl ?_
  refine g_geti C 9 7 (by decide) sh_157 rfl vc_9 (by decide) inXX9 wfl_668 dX9_pack_28 ?_
  refine g_icmp_ge C 56 hf dX9_pack_31 (by decide) (fun hf => ?_) (fun hf => ?_)
  · refine g_sub [0] rfl ?_
    obtain ⟨t, h1, hf⟩ := g_bind hf
    exact w_X9_pack_56 C  hQ  (h1.trans (congrArg some ((B1 _ (Option.some.inj hf).symm).symm).symm))
  · refine g_aload_n C 0 dX9_pack_34 rfl ?_
    refine g_geti C 9 16 (by decide) sh_157 rfl vc_9 (by decide) inXX9 wfl_677 dX9_pack_35 ?_
    refine g_if_eq C 56 hf dX9_pack_38 (by decide) (fun hf => ?_) (fun hf => ?_)
    · refine g_sub [0] rfl ?_
      obtain ⟨t, h1, hf⟩ := g_bind hf
      exact w_X9_pack_56 C  hQ  (h1.trans (congrArg some ((B1 _ (Option.some.inj hf).symm).symm).symm))
    · refine g_aload_n C 0 dX9_pack_41 rfl ?_
      refine g_aload_n C 0 dX9_pack_42 rfl ?_
      refine g_iload_n C 1 dX9_pack_43 rfl ?_
      obtain ⟨q44, h1, hf⟩ := g_bind hf
      refine g_callVi C 1 [.int x1] (c_X9_packBlock (Xl X) (gC_I C)  h1) ⟨wml_891, wim_893, wsp_25, win_10, wcd_894⟩ (by decide) sh_157 vc_9 rfl hd_X9_packBlock ⟨rfl, rfl⟩ ⟨Nat.le_of_ble_eq_true rfl, Nat.le_of_ble_eq_true rfl⟩ rfl rfl (Nat.le_of_ble_eq_true rfl) dX9_pack_44 ?_
      clear h1
      refine g_if hf (fun hf hz => ?_) (fun hf _ => by cases hf)
      obtain ⟨s47, h1, hf⟩ := g_bind hf
      refine g_put C 9 16 (by decide) sh_157 rfl (by decide) vc_9 (by decide) tyX9 tyX9_ok nmX9 inXX9 wfl_677 rfl (ty := .boolean) (by decide +kernel) (g_nz hz) (g_fz hz) dX9_pack_47 ?_
      rw [Option.some.inj h1]
      clear h1
      refine g_iinc C (v := x1 + (1 : Int32)) (lv' := [(1, .int (x1 + (1 : Int32))), (0, .ref (Xd X 157))]) 1 dX9_pack_50 rfl rfl (by decide) rfl ?_
      refine g_goto C 26 dX9_pack_53 (by decide) ?_
      refine g_sub [1, 0] rfl ?_
      exact A1 (x1 + (1 : Int32), s47) (Option.some.inj hf).symm
theorem wl_X9_pack_26 {X : gX}  {r0 : (Int32 × sg)} (C : gC X cX9_pack 2 RX9 (some .int) rm_X9_pack)  (hQ : gQ X (qI (XG X) r0.1 r0.2))  {n : Nat} {a : (Int32 × sg)} (hf : L_X9_pack_26  n a = some r0) : G X 2 a.2 26 [(0, .ref (Xd X 157)), (1, .int a.1)] [] := by
  unfold L_X9_pack_26 at hf
  have key := g_loop_ind (res := r0) (f := fun a => B_X9_pack_26 a.1 a.2) (P := fun a => G X 2 a.2 26 [(0, .ref (Xd X 157)), (1, .int a.1)] []) (fun a r1 h1 k1 k2 => w_X9_pack_26 (x1 := a.1) (σ := a.2) C  hQ  k1 k2 h1)
  exact key n a hf
theorem w_X9_pack_e {X : gX} {σ : sg}  {r0 : (Int32 × sg)} (C : gC X cX9_pack 2 RX9 (some .int) rm_X9_pack)  (hQ : gQ X (qI (XG X) r0.1 r0.2)) (hf : f_X9_pack σ = some r0) : G X 2 σ 0 [(0, .ref (Xd X 157))] [] := by
  unfold f_X9_pack at hf
  refine g_aload_n C 0 dX9_pack_0 rfl ?_
  obtain ⟨v1, h1, hf⟩ := g_bind hf
  refine g_callVi C 0 [] (c_X9_isComplete (Xl X) (gC_I C)  h1) ⟨wml_816, wim_818, wsp_15, win_10, wcd_819⟩ (by decide) sh_157 vc_9 rfl hd_X9_isComplete ⟨rfl, rfl⟩ ⟨Nat.le_of_ble_eq_true rfl, Nat.le_of_ble_eq_true rfl⟩ rfl rfl (Nat.le_of_ble_eq_true rfl) dX9_pack_1 ?_
  clear h1
  refine g_if_ne C 10 hf dX9_pack_4 (by decide) (fun hf => ?_) (fun hf => ?_)
  · refine g_bipush C (v := (-6)) dX9_pack_7 rfl ?_
    have e0 : r0 = ((-6 : Int32), σ) := (Option.some.inj hf).symm
    exact g_iret C rfl hQ (by rw [e0]) rfl dX9_pack_9
  · refine g_aload_n C 0 dX9_pack_10 rfl ?_
    obtain ⟨s11, h1, hf⟩ := g_bind hf
    refine g_callVv C 0 [] (c_X9_findBlocks (Xl X) (gC_I C)  h1) ⟨wml_828, wim_830, wsp_18, win_10, wcd_831⟩ (by decide) sh_157 vc_9 rfl hd_X9_findBlocks ⟨rfl, rfl⟩ ⟨Nat.le_of_ble_eq_true rfl, Nat.le_of_ble_eq_true rfl⟩ rfl rfl (Nat.le_of_ble_eq_true rfl) dX9_pack_11 ?_
    clear h1
    refine g_aload_n C 0 dX9_pack_14 rfl ?_
    refine g_iconst C (v := 0) dX9_pack_15 rfl ?_
    obtain ⟨s16, h1, hf⟩ := g_bind hf
    refine g_put C 9 17 (by decide) sh_157 rfl (by decide) vc_9 (by decide) tyX9 tyX9_ok nmX9 inXX9 wfl_678 rfl (ty := .int) (by decide +kernel) rfl rfl dX9_pack_16 ?_
    rw [Option.some.inj h1]
    clear h1
    refine g_aload_n C 0 dX9_pack_19 rfl ?_
    refine g_iconst C (v := 1) dX9_pack_20 rfl ?_
    obtain ⟨s21, h1, hf⟩ := g_bind hf
    refine g_put C 9 16 (by decide) sh_157 rfl (by decide) vc_9 (by decide) tyX9 tyX9_ok nmX9 inXX9 wfl_677 rfl (ty := .boolean) (by decide +kernel) rfl rfl dX9_pack_21 ?_
    rw [Option.some.inj h1]
    clear h1
    refine g_iconst C (v := 0) dX9_pack_24 rfl ?_
    refine g_istore_n C (lv' := [(1, .int (0 : Int32)), (0, .ref (Xd X 157))]) dX9_pack_25 (by decide) rfl ?_
    refine g_sub [1, 0] rfl ?_
    exact wl_X9_pack_26 (a := ((0 : Int32), s21)) C  hQ  hf
theorem c_X9_pack (l : Launch) {Gw : gW} (hI : g_I Gw) {σ : sg}  {r : (Int32 × sg)}  (hf : f_X9_pack σ = some r) : gM l Gw yX9_pack cX9_pack 2 (some .int) rm_X9_pack [.ref (Gw.2.2 157)] σ (qI (Gw) r.1 r.2) := by
  refine g_met hI (by decide) (Nat.le_of_ble_eq_true rfl) (fun X h1 h2 C hQ => ?_)
  subst h1; subst h2
  exact w_X9_pack_e C  hQ hf
theorem dX9_unpack_0 : decode cX9_unpack 0 = .ok (.aload_n 0, 1) := by decide +kernel
theorem dX9_unpack_1 : decode cX9_unpack 1 = .ok (.getfield 100, 3) := by decide +kernel
theorem dX9_unpack_4 : decode cX9_unpack 4 = .ok (.ifCond .ne 6, 3) := by decide +kernel
theorem dX9_unpack_7 : decode cX9_unpack 7 = .ok (.bipush (-5), 2) := by decide +kernel
theorem dX9_unpack_9 : decode cX9_unpack 9 = .ok (.ireturn, 1) := by decide +kernel
theorem dX9_unpack_10 : decode cX9_unpack 10 = .ok (.aload_n 0, 1) := by decide +kernel
theorem dX9_unpack_11 : decode cX9_unpack 11 = .ok (.iconst 0, 1) := by decide +kernel
theorem dX9_unpack_12 : decode cX9_unpack 12 = .ok (.putfield 100, 3) := by decide +kernel
theorem dX9_unpack_15 : decode cX9_unpack 15 = .ok (.aload_n 0, 1) := by decide +kernel
theorem dX9_unpack_16 : decode cX9_unpack 16 = .ok (.getfield 178, 3) := by decide +kernel
theorem dX9_unpack_19 : decode cX9_unpack 19 = .ok (.ireturn, 1) := by decide +kernel
abbrev rm_X9_unpack : Room := { frames := 0, cells := 0, slots := 0, locals := 0 }
theorem w_X9_unpack_e {X : gX} {σ : sg}  {r0 : (Int32 × sg)} (C : gC X cX9_unpack 1 RX9 (some .int) rm_X9_unpack)  (hQ : gQ X (qI (XG X) r0.1 r0.2)) (hf : f_X9_unpack σ = some r0) : G X 1 σ 0 [(0, .ref (Xd X 157))] [] := by
  unfold f_X9_unpack at hf
  refine g_aload_n C 0 dX9_unpack_0 rfl ?_
  refine g_geti C 9 16 (by decide) sh_157 rfl vc_9 (by decide) inXX9 wfl_677 dX9_unpack_1 ?_
  refine g_if_ne C 10 hf dX9_unpack_4 (by decide) (fun hf => ?_) (fun hf => ?_)
  · refine g_bipush C (v := (-5)) dX9_unpack_7 rfl ?_
    have e0 : r0 = ((-5 : Int32), σ) := (Option.some.inj hf).symm
    exact g_iret C rfl hQ (by rw [e0]) rfl dX9_unpack_9
  · refine g_aload_n C 0 dX9_unpack_10 rfl ?_
    refine g_iconst C (v := 0) dX9_unpack_11 rfl ?_
    obtain ⟨s12, h1, hf⟩ := g_bind hf
    refine g_put C 9 16 (by decide) sh_157 rfl (by decide) vc_9 (by decide) tyX9 tyX9_ok nmX9 inXX9 wfl_677 rfl (ty := .boolean) (by decide +kernel) rfl rfl dX9_unpack_12 ?_
    rw [Option.some.inj h1]
    clear h1
    refine g_aload_n C 0 dX9_unpack_15 rfl ?_
    refine g_geti C 9 17 (by decide) sh_157 rfl vc_9 (by decide) inXX9 wfl_678 dX9_unpack_16 ?_
    have e0 : r0 = (s12 157 17, s12) := (Option.some.inj hf).symm
    exact g_iret C rfl hQ (by rw [e0]) rfl dX9_unpack_19
theorem c_X9_unpack (l : Launch) {Gw : gW} (hI : g_I Gw) {σ : sg}  {r : (Int32 × sg)}  (hf : f_X9_unpack σ = some r) : gM l Gw yX9_unpack cX9_unpack 1 (some .int) rm_X9_unpack [.ref (Gw.2.2 157)] σ (qI (Gw) r.1 r.2) := by
  refine g_met hI (by decide) (Nat.le_of_ble_eq_true rfl) (fun X h1 h2 C hQ => ?_)
  subst h1; subst h2
  exact w_X9_unpack_e C  hQ hf
theorem dX9_bundleCount_0 : decode cX9_bundleCount 0 = .ok (.aload_n 0, 1) := by decide +kernel
theorem dX9_bundleCount_1 : decode cX9_bundleCount 1 = .ok (.getfield 100, 3) := by decide +kernel
theorem dX9_bundleCount_4 : decode cX9_bundleCount 4 = .ok (.ifCond .eq 10, 3) := by decide +kernel
theorem dX9_bundleCount_7 : decode cX9_bundleCount 7 = .ok (.aload_n 0, 1) := by decide +kernel
theorem dX9_bundleCount_8 : decode cX9_bundleCount 8 = .ok (.getfield 178, 3) := by decide +kernel
theorem dX9_bundleCount_11 : decode cX9_bundleCount 11 = .ok (.goto 5, 3) := by decide +kernel
theorem dX9_bundleCount_14 : decode cX9_bundleCount 14 = .ok (.bipush (-5), 2) := by decide +kernel
theorem dX9_bundleCount_16 : decode cX9_bundleCount 16 = .ok (.ireturn, 1) := by decide +kernel
abbrev rm_X9_bundleCount : Room := { frames := 0, cells := 0, slots := 0, locals := 0 }
theorem w_X9_bundleCount_e {X : gX} {σ : sg}  {r0 : Int32} (C : gC X cX9_bundleCount 1 RX9 (some .int) rm_X9_bundleCount)  (hQ : gQ X (qI (XG X) r0 σ)) (hf : f_X9_bundleCount σ = some r0) : G X 1 σ 0 [(0, .ref (Xd X 157))] [] := by
  unfold f_X9_bundleCount at hf
  refine g_aload_n C 0 dX9_bundleCount_0 rfl ?_
  refine g_geti C 9 16 (by decide) sh_157 rfl vc_9 (by decide) inXX9 wfl_677 dX9_bundleCount_1 ?_
  refine g_if_eq C 14 hf dX9_bundleCount_4 (by decide) (fun hf => ?_) (fun hf => ?_)
  · refine g_bipush C (v := (-5)) dX9_bundleCount_14 rfl ?_
    have e0 : r0 = (-5 : Int32) := (Option.some.inj hf).symm
    exact g_iret C rfl hQ (by rw [e0]) rfl dX9_bundleCount_16
  · refine g_aload_n C 0 dX9_bundleCount_7 rfl ?_
    refine g_geti C 9 17 (by decide) sh_157 rfl vc_9 (by decide) inXX9 wfl_678 dX9_bundleCount_8 ?_
    refine g_goto C 16 dX9_bundleCount_11 (by decide) ?_
    have e0 : r0 = σ 157 17 := (Option.some.inj hf).symm
    exact g_iret C rfl hQ (by rw [e0]) rfl dX9_bundleCount_16
theorem c_X9_bundleCount (l : Launch) {Gw : gW} (hI : g_I Gw) {σ : sg}  {r : Int32}  (hf : f_X9_bundleCount σ = some r) : gM l Gw yX9_bundleCount cX9_bundleCount 1 (some .int) rm_X9_bundleCount [.ref (Gw.2.2 157)] σ (qI (Gw) r σ) := by
  refine g_met hI (by decide) (Nat.le_of_ble_eq_true rfl) (fun X h1 h2 C hQ => ?_)
  subst h1; subst h2
  exact w_X9_bundleCount_e C  hQ hf
