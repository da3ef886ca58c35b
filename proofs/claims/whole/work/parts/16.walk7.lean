theorem dX9_executeBundles_0 : decode cX9_executeBundles 0 = .ok (.aload_n 0, 1) := by decide +kernel
theorem dX9_executeBundles_1 : decode cX9_executeBundles 1 = .ok (.invokevirtual 144, 3) := by decide +kernel
theorem dX9_executeBundles_4 : decode cX9_executeBundles 4 = .ok (.aload_n 0, 1) := by decide +kernel
theorem dX9_executeBundles_5 : decode cX9_executeBundles 5 = .ok (.iconst 0, 1) := by decide +kernel
theorem dX9_executeBundles_6 : decode cX9_executeBundles 6 = .ok (.putfield 229, 3) := by decide +kernel
theorem dX9_executeBundles_9 : decode cX9_executeBundles 9 = .ok (.iconst 0, 1) := by decide +kernel
theorem dX9_executeBundles_10 : decode cX9_executeBundles 10 = .ok (.istore_n 2, 1) := by decide +kernel
theorem dX9_executeBundles_11 : decode cX9_executeBundles 11 = .ok (.iconst 0, 1) := by decide +kernel
theorem dX9_executeBundles_12 : decode cX9_executeBundles 12 = .ok (.istore_n 3, 1) := by decide +kernel
theorem dX9_executeBundles_13 : decode cX9_executeBundles 13 = .ok (.iload_n 3, 1) := by decide +kernel
theorem dX9_executeBundles_14 : decode cX9_executeBundles 14 = .ok (.iload_n 1, 1) := by decide +kernel
theorem dX9_executeBundles_15 : decode cX9_executeBundles 15 = .ok (.if_icmp .ge 47, 3) := by decide +kernel
theorem dX9_executeBundles_18 : decode cX9_executeBundles 18 = .ok (.iload_n 2, 1) := by decide +kernel
theorem dX9_executeBundles_19 : decode cX9_executeBundles 19 = .ok (.aload_n 0, 1) := by decide +kernel
theorem dX9_executeBundles_20 : decode cX9_executeBundles 20 = .ok (.getfield 89, 3) := by decide +kernel
theorem dX9_executeBundles_23 : decode cX9_executeBundles 23 = .ok (.if_icmp .ge 39, 3) := by decide +kernel
theorem dX9_executeBundles_26 : decode cX9_executeBundles 26 = .ok (.aload_n 0, 1) := by decide +kernel
theorem dX9_executeBundles_27 : decode cX9_executeBundles 27 = .ok (.getfield 23, 3) := by decide +kernel
theorem dX9_executeBundles_30 : decode cX9_executeBundles 30 = .ok (.iload_n 2, 1) := by decide +kernel
theorem dX9_executeBundles_31 : decode cX9_executeBundles 31 = .ok (.iaload, 1) := by decide +kernel
theorem dX9_executeBundles_32 : decode cX9_executeBundles 32 = .ok (.istore 4, 2) := by decide +kernel
theorem dX9_executeBundles_34 : decode cX9_executeBundles 34 = .ok (.aload_n 0, 1) := by decide +kernel
theorem dX9_executeBundles_35 : decode cX9_executeBundles 35 = .ok (.iload 4, 2) := by decide +kernel
theorem dX9_executeBundles_37 : decode cX9_executeBundles 37 = .ok (.invokevirtual 232, 3) := by decide +kernel
theorem dX9_executeBundles_40 : decode cX9_executeBundles 40 = .ok (.istore_n 2, 1) := by decide +kernel
theorem dX9_executeBundles_41 : decode cX9_executeBundles 41 = .ok (.aload_n 0, 1) := by decide +kernel
theorem dX9_executeBundles_42 : decode cX9_executeBundles 42 = .ok (.dup, 1) := by decide +kernel
theorem dX9_executeBundles_43 : decode cX9_executeBundles 43 = .ok (.getfield 229, 3) := by decide +kernel
theorem dX9_executeBundles_46 : decode cX9_executeBundles 46 = .ok (.aload_n 0, 1) := by decide +kernel
theorem dX9_executeBundles_47 : decode cX9_executeBundles 47 = .ok (.iload 4, 2) := by decide +kernel
theorem dX9_executeBundles_49 : decode cX9_executeBundles 49 = .ok (.invokevirtual 188, 3) := by decide +kernel
theorem dX9_executeBundles_52 : decode cX9_executeBundles 52 = .ok (.iadd, 1) := by decide +kernel
theorem dX9_executeBundles_53 : decode cX9_executeBundles 53 = .ok (.putfield 229, 3) := by decide +kernel
theorem dX9_executeBundles_56 : decode cX9_executeBundles 56 = .ok (.iinc 3 1, 3) := by decide +kernel
theorem dX9_executeBundles_59 : decode cX9_executeBundles 59 = .ok (.goto (-46), 3) := by decide +kernel
theorem dX9_executeBundles_62 : decode cX9_executeBundles 62 = .ok (.iload_n 2, 1) := by decide +kernel
theorem dX9_executeBundles_63 : decode cX9_executeBundles 63 = .ok (.aload_n 0, 1) := by decide +kernel
theorem dX9_executeBundles_64 : decode cX9_executeBundles 64 = .ok (.getfield 89, 3) := by decide +kernel
theorem dX9_executeBundles_67 : decode cX9_executeBundles 67 = .ok (.if_icmp .lt 7, 3) := by decide +kernel
theorem dX9_executeBundles_70 : decode cX9_executeBundles 70 = .ok (.iconst 1, 1) := by decide +kernel
theorem dX9_executeBundles_71 : decode cX9_executeBundles 71 = .ok (.goto 4, 3) := by decide +kernel
theorem dX9_executeBundles_74 : decode cX9_executeBundles 74 = .ok (.iconst 0, 1) := by decide +kernel
theorem dX9_executeBundles_75 : decode cX9_executeBundles 75 = .ok (.ireturn, 1) := by decide +kernel
abbrev rm_X9_executeBundles : Room := { frames := 4, cells := 0, slots := 0, locals := 93 }
theorem w_X9_executeBundles_62 {X : gX} {x2 : Int32} {σ : sg} {r0 : (Int32 × sg)} (C : gC X cX9_executeBundles 5 RX9 (some .boolean) rm_X9_executeBundles)  (hQ : gQ X (qI (XG X) r0.1 r0.2))  (hf : J_X9_executeBundles_62 x2 σ = some r0) : G X 5 σ 62 [(0, .ref (Xd X 157)), (2, .int x2)] [] := by
  unfold J_X9_executeBundles_62 at hf
  refine g_iload_n C 1 dX9_executeBundles_62 rfl ?_
  refine g_aload_n C 0 dX9_executeBundles_63 rfl ?_
  refine g_geti C 9 0 (by decide) sh_157 rfl vc_9 (by decide) inXX9 wfl_661 dX9_executeBundles_64 ?_
  refine g_icmp_lt C 74 hf dX9_executeBundles_67 (by decide) (fun hf => ?_) (fun hf => ?_)
  · refine g_iconst C (v := 0) dX9_executeBundles_74 rfl ?_
    have e0 : r0 = ((0 : Int32), σ) := (Option.some.inj hf).symm
    exact g_iret C rfl hQ (by rw [e0]) rfl dX9_executeBundles_75
  · refine g_iconst C (v := 1) dX9_executeBundles_70 rfl ?_
    refine g_goto C 75 dX9_executeBundles_71 (by decide) ?_
    have e0 : r0 = ((1 : Int32), σ) := (Option.some.inj hf).symm
    exact g_iret C rfl hQ (by rw [e0]) rfl dX9_executeBundles_75
theorem w_X9_executeBundles_13 {X : gX} {p1 : Int32} {x2 : Int32} {x3 : Int32} {σ : sg} {r0 : (Int32 × sg)} {r1 : ((Int32 × Int32 × sg) ⊕ (Int32 × sg))} (C : gC X cX9_executeBundles 5 RX9 (some .boolean) rm_X9_executeBundles)  (hQ : gQ X (qI (XG X) r0.1 r0.2)) (A1 : ∀ b, r1 = .inl b → G X 5 b.2.2 13 [(0, .ref (Xd X 157)), (1, .int p1), (2, .int b.1), (3, .int b.2.1)] []) (B1 : ∀ b, r1 = .inr b → b = r0) (hf : B_X9_executeBundles_13 p1 x2 x3 σ = some r1) : G X 5 σ 13 [(0, .ref (Xd X 157)), (1, .int p1), (2, .int x2), (3, .int x3)] [] := by
  unfold B_X9_executeBundles_13 at hf
  refine g_iload_n C 3 dX9_executeBundles_13 rfl ?_
  refine g_iload_n C 1 dX9_executeBundles_14 rfl ?_
  refine g_icmp_ge C 62 hf dX9_executeBundles_15 (by decide) (fun hf => ?_) (fun hf => ?_)
  · refine g_sub [0, 2] rfl ?_
    obtain ⟨t, h1, hf⟩ := g_bind hf
    exact w_X9_executeBundles_62 C  hQ  (h1.trans (congrArg some ((B1 _ (Option.some.inj hf).symm).symm).symm))
  · refine g_iload_n C 2 dX9_executeBundles_18 rfl ?_
    refine g_aload_n C 0 dX9_executeBundles_19 rfl ?_
    refine g_geti C 9 0 (by decide) sh_157 rfl vc_9 (by decide) inXX9 wfl_661 dX9_executeBundles_20 ?_
    refine g_icmp_ge C 62 hf dX9_executeBundles_23 (by decide) (fun hf => ?_) (fun hf => ?_)
    · refine g_sub [0, 2] rfl ?_
      obtain ⟨t, h1, hf⟩ := g_bind hf
      exact w_X9_executeBundles_62 C  hQ  (h1.trans (congrArg some ((B1 _ (Option.some.inj hf).symm).symm).symm))
    · refine g_aload_n C 0 dX9_executeBundles_26 rfl ?_
      refine g_getr C 9 5 (611) (by decide) sh_157 rfl vc_9 (by decide) inXX9 wfl_666 dX9_executeBundles_27 ?_
      refine g_iload_n C 2 dX9_executeBundles_30 rfl ?_
      obtain ⟨v31, h1, hf⟩ := g_bind hf
      refine g_iald C h1 dX9_executeBundles_31 ?_
      clear h1
      refine g_istore C (lv' := [(4, .int v31), (0, .ref (Xd X 157)), (1, .int p1), (2, .int x2), (3, .int x3)]) dX9_executeBundles_32 (by decide) rfl ?_
      refine g_aload_n C 1 dX9_executeBundles_34 rfl ?_
      refine g_iload C 0 dX9_executeBundles_35 rfl ?_
      obtain ⟨q37, h1, hf⟩ := g_bind hf
      refine g_callVi C 1 [.int v31] (c_X9_executeBlock (Xl X) (gC_I C)  h1) ⟨wml_1019, wim_1021, wsp_40, win_10, wcd_1022⟩ (by decide) sh_157 vc_9 rfl hd_X9_executeBlock ⟨rfl, rfl⟩ ⟨Nat.le_of_ble_eq_true rfl, Nat.le_of_ble_eq_true rfl⟩ rfl rfl (Nat.le_of_ble_eq_true rfl) dX9_executeBundles_37 ?_
      clear h1
      refine g_istore_n C (lv' := [(2, .int q37.1), (4, .int v31), (0, .ref (Xd X 157)), (1, .int p1), (3, .int x3)]) dX9_executeBundles_40 (by decide) rfl ?_
      refine g_aload_n C 2 dX9_executeBundles_41 rfl ?_
      refine g_dup C dX9_executeBundles_42 rfl ?_
      refine g_geti C 9 33 (by decide) sh_157 rfl vc_9 (by decide) inXX9 wfl_694 dX9_executeBundles_43 ?_
      refine g_aload_n C 2 dX9_executeBundles_46 rfl ?_
      refine g_iload C 1 dX9_executeBundles_47 rfl ?_
      obtain ⟨v49, h1, hf⟩ := g_bind hf
      refine g_callVi C 1 [.int v31] (c_X9_cyclesOf (Xl X) (gC_I C)  h1) ⟨wml_934, wim_936, wsp_30, win_10, wcd_937⟩ (by decide) sh_157 vc_9 rfl hd_X9_cyclesOf ⟨rfl, rfl⟩ ⟨Nat.le_of_ble_eq_true rfl, Nat.le_of_ble_eq_true rfl⟩ rfl rfl (Nat.le_of_ble_eq_true rfl) dX9_executeBundles_49 ?_
      clear h1
      refine g_iadd C dX9_executeBundles_52 ?_
      obtain ⟨s53, h1, hf⟩ := g_bind hf
      refine g_put C 9 33 (by decide) sh_157 rfl (by decide) vc_9 (by decide) tyX9 tyX9_ok nmX9 inXX9 wfl_694 rfl (ty := .int) (by decide +kernel) rfl rfl dX9_executeBundles_53 ?_
      rw [Option.some.inj h1]
      clear h1
      refine g_iinc C (v := x3 + (1 : Int32)) (lv' := [(3, .int (x3 + (1 : Int32))), (2, .int q37.1), (4, .int v31), (0, .ref (Xd X 157)), (1, .int p1)]) 4 dX9_executeBundles_56 rfl rfl (by decide) rfl ?_
      refine g_goto C 13 dX9_executeBundles_59 (by decide) ?_
      refine g_sub [3, 4, 1, 0] rfl ?_
      exact A1 (q37.1, x3 + (1 : Int32), s53) (Option.some.inj hf).symm
theorem wl_X9_executeBundles_13 {X : gX} {p1 : Int32} {r0 : (Int32 × sg)} (C : gC X cX9_executeBundles 5 RX9 (some .boolean) rm_X9_executeBundles)  (hQ : gQ X (qI (XG X) r0.1 r0.2))  {n : Nat} {a : (Int32 × Int32 × sg)} (hf : L_X9_executeBundles_13 p1 n a = some r0) : G X 5 a.2.2 13 [(0, .ref (Xd X 157)), (1, .int p1), (2, .int a.1), (3, .int a.2.1)] [] := by
  unfold L_X9_executeBundles_13 at hf
  have key := g_loop_ind (res := r0) (f := fun a => B_X9_executeBundles_13 p1 a.1 a.2.1 a.2.2) (P := fun a => G X 5 a.2.2 13 [(0, .ref (Xd X 157)), (1, .int p1), (2, .int a.1), (3, .int a.2.1)] []) (fun a r1 h1 k1 k2 => w_X9_executeBundles_13 (x2 := a.1) (x3 := a.2.1) (σ := a.2.2) C  hQ  k1 k2 h1)
  exact key n a hf
theorem w_X9_executeBundles_e {X : gX} {σ : sg} {p1 : Int32} {r0 : (Int32 × sg)} (C : gC X cX9_executeBundles 5 RX9 (some .boolean) rm_X9_executeBundles)  (hQ : gQ X (qI (XG X) r0.1 r0.2)) (hf : f_X9_executeBundles σ p1 = some r0) : G X 5 σ 0 [(0, .ref (Xd X 157)), (1, .int p1)] [] := by
  unfold f_X9_executeBundles at hf
  refine g_aload_n C 0 dX9_executeBundles_0 rfl ?_
  obtain ⟨s1, h1, hf⟩ := g_bind hf
  refine g_callVv C 0 [] (c_X9_findBlocks (Xl X) (gC_I C)  h1) ⟨wml_828, wim_830, wsp_18, win_10, wcd_831⟩ (by decide) sh_157 vc_9 rfl hd_X9_findBlocks ⟨rfl, rfl⟩ ⟨Nat.le_of_ble_eq_true rfl, Nat.le_of_ble_eq_true rfl⟩ rfl rfl (Nat.le_of_ble_eq_true rfl) dX9_executeBundles_1 ?_
  clear h1
  refine g_aload_n C 0 dX9_executeBundles_4 rfl ?_
  refine g_iconst C (v := 0) dX9_executeBundles_5 rfl ?_
  obtain ⟨s6, h1, hf⟩ := g_bind hf
  refine g_put C 9 33 (by decide) sh_157 rfl (by decide) vc_9 (by decide) tyX9 tyX9_ok nmX9 inXX9 wfl_694 rfl (ty := .int) (by decide +kernel) rfl rfl dX9_executeBundles_6 ?_
  rw [Option.some.inj h1]
  clear h1
  refine g_iconst C (v := 0) dX9_executeBundles_9 rfl ?_
  refine g_istore_n C (lv' := [(2, .int (0 : Int32)), (0, .ref (Xd X 157)), (1, .int p1)]) dX9_executeBundles_10 (by decide) rfl ?_
  refine g_iconst C (v := 0) dX9_executeBundles_11 rfl ?_
  refine g_istore_n C (lv' := [(3, .int (0 : Int32)), (2, .int (0 : Int32)), (0, .ref (Xd X 157)), (1, .int p1)]) dX9_executeBundles_12 (by decide) rfl ?_
  refine g_sub [2, 3, 1, 0] rfl ?_
  exact wl_X9_executeBundles_13 (a := ((0 : Int32), (0 : Int32), s6)) C  hQ  hf
theorem c_X9_executeBundles (l : Launch) {Gw : gW} (hI : g_I Gw) {σ : sg} {p1 : Int32} {r : (Int32 × sg)}  (hf : f_X9_executeBundles σ p1 = some r) : gM l Gw yX9_executeBundles cX9_executeBundles 5 (some .boolean) rm_X9_executeBundles [.ref (Gw.2.2 157), .int p1] σ (qI (Gw) r.1 r.2) := by
  refine g_met hI (by decide) (Nat.le_of_ble_eq_true rfl) (fun X h1 h2 C hQ => ?_)
  subst h1; subst h2
  exact w_X9_executeBundles_e C  hQ hf
theorem dX9_runBundles_0 : decode cX9_runBundles 0 = .ok (.iload_n 1, 1) := by decide +kernel
theorem dX9_runBundles_1 : decode cX9_runBundles 1 = .ok (.iconst 0, 1) := by decide +kernel
theorem dX9_runBundles_2 : decode cX9_runBundles 2 = .ok (.bipush 100, 2) := by decide +kernel
theorem dX9_runBundles_4 : decode cX9_runBundles 4 = .ok (.invokestatic 77, 3) := by decide +kernel
theorem dX9_runBundles_7 : decode cX9_runBundles 7 = .ok (.ifCond .ne 6, 3) := by decide +kernel
theorem dX9_runBundles_10 : decode cX9_runBundles 10 = .ok (.bipush (-2), 2) := by decide +kernel
theorem dX9_runBundles_12 : decode cX9_runBundles 12 = .ok (.ireturn, 1) := by decide +kernel
theorem dX9_runBundles_13 : decode cX9_runBundles 13 = .ok (.aload_n 0, 1) := by decide +kernel
theorem dX9_runBundles_14 : decode cX9_runBundles 14 = .ok (.getfield 100, 3) := by decide +kernel
theorem dX9_runBundles_17 : decode cX9_runBundles 17 = .ok (.ifCond .ne 6, 3) := by decide +kernel
theorem dX9_runBundles_20 : decode cX9_runBundles 20 = .ok (.bipush (-5), 2) := by decide +kernel
theorem dX9_runBundles_22 : decode cX9_runBundles 22 = .ok (.ireturn, 1) := by decide +kernel
theorem dX9_runBundles_23 : decode cX9_runBundles 23 = .ok (.aload_n 0, 1) := by decide +kernel
theorem dX9_runBundles_24 : decode cX9_runBundles 24 = .ok (.iload_n 1, 1) := by decide +kernel
theorem dX9_runBundles_25 : decode cX9_runBundles 25 = .ok (.invokevirtual 235, 3) := by decide +kernel
theorem dX9_runBundles_28 : decode cX9_runBundles 28 = .ok (.ifCond .eq 10, 3) := by decide +kernel
theorem dX9_runBundles_31 : decode cX9_runBundles 31 = .ok (.aload_n 0, 1) := by decide +kernel
theorem dX9_runBundles_32 : decode cX9_runBundles 32 = .ok (.getfield 229, 3) := by decide +kernel
theorem dX9_runBundles_35 : decode cX9_runBundles 35 = .ok (.goto 5, 3) := by decide +kernel
theorem dX9_runBundles_38 : decode cX9_runBundles 38 = .ok (.bipush (-7), 2) := by decide +kernel
theorem dX9_runBundles_40 : decode cX9_runBundles 40 = .ok (.ireturn, 1) := by decide +kernel
abbrev rm_X9_runBundles : Room := { frames := 5, cells := 0, slots := 0, locals := 117 }
theorem w_X9_runBundles_e {X : gX} {σ : sg} {p1 : Int32} {r0 : (Int32 × sg)} (C : gC X cX9_runBundles 2 RX9 (some .int) rm_X9_runBundles)  (hQ : gQ X (qI (XG X) r0.1 r0.2)) (hf : f_X9_runBundles σ p1 = some r0) : G X 2 σ 0 [(0, .ref (Xd X 157)), (1, .int p1)] [] := by
  unfold f_X9_runBundles at hf
  refine g_iload_n C 1 dX9_runBundles_0 rfl ?_
  refine g_iconst C (v := 0) dX9_runBundles_1 rfl ?_
  refine g_bipush C (v := 100) dX9_runBundles_2 rfl ?_
  obtain ⟨v4, h1, hf⟩ := g_bind hf
  refine g_callSi C 3 [.int p1, .int (0 : Int32), .int (100 : Int32)] (c_X9_isBetween (Xl X) (gC_I C)  h1) ⟨wml_771, wst_772, win_10, wcd_773⟩ hd_X9_isBetween ⟨rfl, rfl⟩ ⟨Nat.le_of_ble_eq_true rfl, Nat.le_of_ble_eq_true rfl⟩ rfl rfl (Nat.le_of_ble_eq_true rfl) dX9_runBundles_4 ?_
  clear h1
  refine g_if_ne C 13 hf dX9_runBundles_7 (by decide) (fun hf => ?_) (fun hf => ?_)
  · refine g_bipush C (v := (-2)) dX9_runBundles_10 rfl ?_
    have e0 : r0 = ((-2 : Int32), σ) := (Option.some.inj hf).symm
    exact g_iret C rfl hQ (by rw [e0]) rfl dX9_runBundles_12
  · refine g_aload_n C 0 dX9_runBundles_13 rfl ?_
    refine g_geti C 9 16 (by decide) sh_157 rfl vc_9 (by decide) inXX9 wfl_677 dX9_runBundles_14 ?_
    refine g_if_ne C 23 hf dX9_runBundles_17 (by decide) (fun hf => ?_) (fun hf => ?_)
    · refine g_bipush C (v := (-5)) dX9_runBundles_20 rfl ?_
      have e0 : r0 = ((-5 : Int32), σ) := (Option.some.inj hf).symm
      exact g_iret C rfl hQ (by rw [e0]) rfl dX9_runBundles_22
    · refine g_aload_n C 0 dX9_runBundles_23 rfl ?_
      refine g_iload_n C 1 dX9_runBundles_24 rfl ?_
      obtain ⟨q25, h1, hf⟩ := g_bind hf
      refine g_callVi C 1 [.int p1] (c_X9_executeBundles (Xl X) (gC_I C)  h1) ⟨wml_1015, wim_1017, wsp_39, win_10, wcd_1018⟩ (by decide) sh_157 vc_9 rfl hd_X9_executeBundles ⟨rfl, rfl⟩ ⟨Nat.le_of_ble_eq_true rfl, Nat.le_of_ble_eq_true rfl⟩ rfl rfl (Nat.le_of_ble_eq_true rfl) dX9_runBundles_25 ?_
      clear h1
      refine g_if_eq C 38 hf dX9_runBundles_28 (by decide) (fun hf => ?_) (fun hf => ?_)
      · refine g_bipush C (v := (-7)) dX9_runBundles_38 rfl ?_
        have e0 : r0 = ((-7 : Int32), q25.2) := (Option.some.inj hf).symm
        exact g_iret C rfl hQ (by rw [e0]) rfl dX9_runBundles_40
      · refine g_aload_n C 0 dX9_runBundles_31 rfl ?_
        refine g_geti C 9 33 (by decide) sh_157 rfl vc_9 (by decide) inXX9 wfl_694 dX9_runBundles_32 ?_
        refine g_goto C 40 dX9_runBundles_35 (by decide) ?_
        have e0 : r0 = (q25.2 157 33, q25.2) := (Option.some.inj hf).symm
        exact g_iret C rfl hQ (by rw [e0]) rfl dX9_runBundles_40
theorem c_X9_runBundles (l : Launch) {Gw : gW} (hI : g_I Gw) {σ : sg} {p1 : Int32} {r : (Int32 × sg)}  (hf : f_X9_runBundles σ p1 = some r) : gM l Gw yX9_runBundles cX9_runBundles 2 (some .int) rm_X9_runBundles [.ref (Gw.2.2 157), .int p1] σ (qI (Gw) r.1 r.2) := by
  refine g_met hI (by decide) (Nat.le_of_ble_eq_true rfl) (fun X h1 h2 C hQ => ?_)
  subst h1; subst h2
  exact w_X9_runBundles_e C  hQ hf
theorem dX9_compare_0 : decode cX9_compare 0 = .ok (.iload_n 1, 1) := by decide +kernel
theorem dX9_compare_1 : decode cX9_compare 1 = .ok (.iconst 0, 1) := by decide +kernel
theorem dX9_compare_2 : decode cX9_compare 2 = .ok (.sipush 300, 3) := by decide +kernel
theorem dX9_compare_5 : decode cX9_compare 5 = .ok (.invokestatic 77, 3) := by decide +kernel
theorem dX9_compare_8 : decode cX9_compare 8 = .ok (.ifCond .ne 6, 3) := by decide +kernel
theorem dX9_compare_11 : decode cX9_compare 11 = .ok (.bipush (-2), 2) := by decide +kernel
theorem dX9_compare_13 : decode cX9_compare 13 = .ok (.ireturn, 1) := by decide +kernel
theorem dX9_compare_14 : decode cX9_compare 14 = .ok (.aload_n 0, 1) := by decide +kernel
theorem dX9_compare_15 : decode cX9_compare 15 = .ok (.getfield 100, 3) := by decide +kernel
theorem dX9_compare_18 : decode cX9_compare 18 = .ok (.ifCond .ne 6, 3) := by decide +kernel
theorem dX9_compare_21 : decode cX9_compare 21 = .ok (.bipush (-5), 2) := by decide +kernel
theorem dX9_compare_23 : decode cX9_compare 23 = .ok (.ireturn, 1) := by decide +kernel
theorem dX9_compare_24 : decode cX9_compare 24 = .ok (.iconst 0, 1) := by decide +kernel
theorem dX9_compare_25 : decode cX9_compare 25 = .ok (.istore_n 2, 1) := by decide +kernel
theorem dX9_compare_26 : decode cX9_compare 26 = .ok (.iload_n 2, 1) := by decide +kernel
theorem dX9_compare_27 : decode cX9_compare 27 = .ok (.aload_n 0, 1) := by decide +kernel
theorem dX9_compare_28 : decode cX9_compare 28 = .ok (.getfield 59, 3) := by decide +kernel
theorem dX9_compare_31 : decode cX9_compare 31 = .ok (.arraylength, 1) := by decide +kernel
theorem dX9_compare_32 : decode cX9_compare 32 = .ok (.if_icmp .ge 21, 3) := by decide +kernel
theorem dX9_compare_35 : decode cX9_compare 35 = .ok (.aload_n 0, 1) := by decide +kernel
theorem dX9_compare_36 : decode cX9_compare 36 = .ok (.getfield 62, 3) := by decide +kernel
theorem dX9_compare_39 : decode cX9_compare 39 = .ok (.iload_n 2, 1) := by decide +kernel
theorem dX9_compare_40 : decode cX9_compare 40 = .ok (.aload_n 0, 1) := by decide +kernel
theorem dX9_compare_41 : decode cX9_compare 41 = .ok (.getfield 59, 3) := by decide +kernel
theorem dX9_compare_44 : decode cX9_compare 44 = .ok (.iload_n 2, 1) := by decide +kernel
theorem dX9_compare_45 : decode cX9_compare 45 = .ok (.iaload, 1) := by decide +kernel
theorem dX9_compare_46 : decode cX9_compare 46 = .ok (.iastore, 1) := by decide +kernel
theorem dX9_compare_47 : decode cX9_compare 47 = .ok (.iinc 2 1, 3) := by decide +kernel
theorem dX9_compare_50 : decode cX9_compare 50 = .ok (.goto (-24), 3) := by decide +kernel
theorem dX9_compare_53 : decode cX9_compare 53 = .ok (.aload_n 0, 1) := by decide +kernel
theorem dX9_compare_54 : decode cX9_compare 54 = .ok (.iload_n 1, 1) := by decide +kernel
theorem dX9_compare_55 : decode cX9_compare 55 = .ok (.invokevirtual 226, 3) := by decide +kernel
theorem dX9_compare_58 : decode cX9_compare 58 = .ok (.istore_n 2, 1) := by decide +kernel
theorem dX9_compare_59 : decode cX9_compare 59 = .ok (.iconst 0, 1) := by decide +kernel
theorem dX9_compare_60 : decode cX9_compare 60 = .ok (.istore_n 3, 1) := by decide +kernel
theorem dX9_compare_61 : decode cX9_compare 61 = .ok (.iload_n 3, 1) := by decide +kernel
theorem dX9_compare_62 : decode cX9_compare 62 = .ok (.aload_n 0, 1) := by decide +kernel
theorem dX9_compare_63 : decode cX9_compare 63 = .ok (.getfield 59, 3) := by decide +kernel
theorem dX9_compare_66 : decode cX9_compare 66 = .ok (.arraylength, 1) := by decide +kernel
theorem dX9_compare_67 : decode cX9_compare 67 = .ok (.if_icmp .ge 33, 3) := by decide +kernel
theorem dX9_compare_70 : decode cX9_compare 70 = .ok (.aload_n 0, 1) := by decide +kernel
theorem dX9_compare_71 : decode cX9_compare 71 = .ok (.getfield 65, 3) := by decide +kernel
theorem dX9_compare_74 : decode cX9_compare 74 = .ok (.iload_n 3, 1) := by decide +kernel
theorem dX9_compare_75 : decode cX9_compare 75 = .ok (.aload_n 0, 1) := by decide +kernel
theorem dX9_compare_76 : decode cX9_compare 76 = .ok (.getfield 59, 3) := by decide +kernel
theorem dX9_compare_79 : decode cX9_compare 79 = .ok (.iload_n 3, 1) := by decide +kernel
theorem dX9_compare_80 : decode cX9_compare 80 = .ok (.iaload, 1) := by decide +kernel
theorem dX9_compare_81 : decode cX9_compare 81 = .ok (.iastore, 1) := by decide +kernel
theorem dX9_compare_82 : decode cX9_compare 82 = .ok (.aload_n 0, 1) := by decide +kernel
theorem dX9_compare_83 : decode cX9_compare 83 = .ok (.getfield 59, 3) := by decide +kernel
theorem dX9_compare_86 : decode cX9_compare 86 = .ok (.iload_n 3, 1) := by decide +kernel
theorem dX9_compare_87 : decode cX9_compare 87 = .ok (.aload_n 0, 1) := by decide +kernel
theorem dX9_compare_88 : decode cX9_compare 88 = .ok (.getfield 62, 3) := by decide +kernel
theorem dX9_compare_91 : decode cX9_compare 91 = .ok (.iload_n 3, 1) := by decide +kernel
theorem dX9_compare_92 : decode cX9_compare 92 = .ok (.iaload, 1) := by decide +kernel
theorem dX9_compare_93 : decode cX9_compare 93 = .ok (.iastore, 1) := by decide +kernel
theorem dX9_compare_94 : decode cX9_compare 94 = .ok (.iinc 3 1, 3) := by decide +kernel
theorem dX9_compare_97 : decode cX9_compare 97 = .ok (.goto (-36), 3) := by decide +kernel
theorem dX9_compare_100 : decode cX9_compare 100 = .ok (.iload_n 2, 1) := by decide +kernel
theorem dX9_compare_101 : decode cX9_compare 101 = .ok (.ifCond .eq 20, 3) := by decide +kernel
theorem dX9_compare_104 : decode cX9_compare 104 = .ok (.aload_n 0, 1) := by decide +kernel
theorem dX9_compare_105 : decode cX9_compare 105 = .ok (.aload_n 0, 1) := by decide +kernel
theorem dX9_compare_106 : decode cX9_compare 106 = .ok (.getfield 214, 3) := by decide +kernel
theorem dX9_compare_109 : decode cX9_compare 109 = .ok (.iconst 1, 1) := by decide +kernel
theorem dX9_compare_110 : decode cX9_compare 110 = .ok (.iadd, 1) := by decide +kernel
theorem dX9_compare_111 : decode cX9_compare 111 = .ok (.invokevirtual 235, 3) := by decide +kernel
theorem dX9_compare_114 : decode cX9_compare 114 = .ok (.ifCond .eq 7, 3) := by decide +kernel
theorem dX9_compare_117 : decode cX9_compare 117 = .ok (.iconst 1, 1) := by decide +kernel
theorem dX9_compare_118 : decode cX9_compare 118 = .ok (.goto 4, 3) := by decide +kernel
theorem dX9_compare_121 : decode cX9_compare 121 = .ok (.iconst 0, 1) := by decide +kernel
theorem dX9_compare_122 : decode cX9_compare 122 = .ok (.istore_n 3, 1) := by decide +kernel
theorem dX9_compare_123 : decode cX9_compare 123 = .ok (.iconst 0, 1) := by decide +kernel
theorem dX9_compare_124 : decode cX9_compare 124 = .ok (.istore 4, 2) := by decide +kernel
theorem dX9_compare_126 : decode cX9_compare 126 = .ok (.iload 4, 2) := by decide +kernel
theorem dX9_compare_128 : decode cX9_compare 128 = .ok (.aload_n 0, 1) := by decide +kernel
theorem dX9_compare_129 : decode cX9_compare 129 = .ok (.getfield 59, 3) := by decide +kernel
theorem dX9_compare_132 : decode cX9_compare 132 = .ok (.arraylength, 1) := by decide +kernel
theorem dX9_compare_133 : decode cX9_compare 133 = .ok (.if_icmp .ge 48, 3) := by decide +kernel
theorem dX9_compare_136 : decode cX9_compare 136 = .ok (.iload_n 3, 1) := by decide +kernel
theorem dX9_compare_137 : decode cX9_compare 137 = .ok (.aload_n 0, 1) := by decide +kernel
theorem dX9_compare_138 : decode cX9_compare 138 = .ok (.getfield 65, 3) := by decide +kernel
theorem dX9_compare_141 : decode cX9_compare 141 = .ok (.iload 4, 2) := by decide +kernel
theorem dX9_compare_143 : decode cX9_compare 143 = .ok (.iaload, 1) := by decide +kernel
theorem dX9_compare_144 : decode cX9_compare 144 = .ok (.aload_n 0, 1) := by decide +kernel
theorem dX9_compare_145 : decode cX9_compare 145 = .ok (.getfield 59, 3) := by decide +kernel
theorem dX9_compare_148 : decode cX9_compare 148 = .ok (.iload 4, 2) := by decide +kernel
theorem dX9_compare_150 : decode cX9_compare 150 = .ok (.iaload, 1) := by decide +kernel
theorem dX9_compare_151 : decode cX9_compare 151 = .ok (.if_icmp .ne 7, 3) := by decide +kernel
theorem dX9_compare_154 : decode cX9_compare 154 = .ok (.iconst 1, 1) := by decide +kernel
theorem dX9_compare_155 : decode cX9_compare 155 = .ok (.goto 4, 3) := by decide +kernel
theorem dX9_compare_158 : decode cX9_compare 158 = .ok (.iconst 0, 1) := by decide +kernel
theorem dX9_compare_159 : decode cX9_compare 159 = .ok (.iand, 1) := by decide +kernel
theorem dX9_compare_160 : decode cX9_compare 160 = .ok (.istore_n 3, 1) := by decide +kernel
theorem dX9_compare_161 : decode cX9_compare 161 = .ok (.aload_n 0, 1) := by decide +kernel
theorem dX9_compare_162 : decode cX9_compare 162 = .ok (.getfield 59, 3) := by decide +kernel
theorem dX9_compare_165 : decode cX9_compare 165 = .ok (.iload 4, 2) := by decide +kernel
theorem dX9_compare_167 : decode cX9_compare 167 = .ok (.aload_n 0, 1) := by decide +kernel
theorem dX9_compare_168 : decode cX9_compare 168 = .ok (.getfield 62, 3) := by decide +kernel
theorem dX9_compare_171 : decode cX9_compare 171 = .ok (.iload 4, 2) := by decide +kernel
theorem dX9_compare_173 : decode cX9_compare 173 = .ok (.iaload, 1) := by decide +kernel
theorem dX9_compare_174 : decode cX9_compare 174 = .ok (.iastore, 1) := by decide +kernel
theorem dX9_compare_175 : decode cX9_compare 175 = .ok (.iinc 4 1, 3) := by decide +kernel
theorem dX9_compare_178 : decode cX9_compare 178 = .ok (.goto (-52), 3) := by decide +kernel
theorem dX9_compare_181 : decode cX9_compare 181 = .ok (.iload_n 2, 1) := by decide +kernel
theorem dX9_compare_182 : decode cX9_compare 182 = .ok (.ifCond .ne 8, 3) := by decide +kernel
theorem dX9_compare_185 : decode cX9_compare 185 = .ok (.bipush (-7), 2) := by decide +kernel
theorem dX9_compare_187 : decode cX9_compare 187 = .ok (.goto 12, 3) := by decide +kernel
theorem dX9_compare_190 : decode cX9_compare 190 = .ok (.iload_n 3, 1) := by decide +kernel
theorem dX9_compare_191 : decode cX9_compare 191 = .ok (.ifCond .eq 7, 3) := by decide +kernel
theorem dX9_compare_194 : decode cX9_compare 194 = .ok (.iconst 1, 1) := by decide +kernel
theorem dX9_compare_195 : decode cX9_compare 195 = .ok (.goto 4, 3) := by decide +kernel
theorem dX9_compare_198 : decode cX9_compare 198 = .ok (.iconst 0, 1) := by decide +kernel
theorem dX9_compare_199 : decode cX9_compare 199 = .ok (.ireturn, 1) := by decide +kernel
abbrev rm_X9_compare : Room := { frames := 5, cells := 0, slots := 0, locals := 117 }
theorem w_X9_compare_159 {X : gX} {x2 : Int32} {x4 : Int32} {t0 : Int32} {t1 : Int32} {σ : sg} {r0 : (Int32 × sg)} {r1 : ((Int32 × Int32 × sg) ⊕ (Int32 × sg))} (C : gC X cX9_compare 5 RX9 (some .int) rm_X9_compare)  (hQ : gQ X (qI (XG X) r0.1 r0.2)) (A1 : ∀ b, r1 = .inl b → G X 5 b.2.2 126 [(0, .ref (Xd X 157)), (2, .int x2), (3, .int b.1), (4, .int b.2.1)] []) (B1 : ∀ b, r1 = .inr b → b = r0) (hf : J_X9_compare_159 x2 x4 t0 t1 σ = some r1) : G X 5 σ 159 [(0, .ref (Xd X 157)), (2, .int x2), (4, .int x4)] [.int t0, .int t1] := by
  unfold J_X9_compare_159 at hf
  refine g_iand C dX9_compare_159 ?_
  refine g_istore_n C (lv' := [(3, .int (t1 &&& t0)), (0, .ref (Xd X 157)), (2, .int x2), (4, .int x4)]) dX9_compare_160 (by decide) rfl ?_
  refine g_aload_n C 1 dX9_compare_161 rfl ?_
  refine g_getr C 9 26 (731) (by decide) sh_157 rfl vc_9 (by decide) inXX9 wfl_687 dX9_compare_162 ?_
  refine g_iload C 3 dX9_compare_165 rfl ?_
  refine g_aload_n C 1 dX9_compare_167 rfl ?_
  refine g_getr C 9 27 (732) (by decide) sh_157 rfl vc_9 (by decide) inXX9 wfl_688 dX9_compare_168 ?_
  refine g_iload C 3 dX9_compare_171 rfl ?_
  obtain ⟨v173, h1, hf⟩ := g_bind hf
  refine g_iald C h1 dX9_compare_173 ?_
  clear h1
  obtain ⟨s174, h1, hf⟩ := g_bind hf
  refine g_iast C h1 dX9_compare_174 ?_
  clear h1
  refine g_iinc C (v := x4 + (1 : Int32)) (lv' := [(4, .int (x4 + (1 : Int32))), (3, .int (t1 &&& t0)), (0, .ref (Xd X 157)), (2, .int x2)]) 3 dX9_compare_175 rfl rfl (by decide) rfl ?_
  refine g_goto C 126 dX9_compare_178 (by decide) ?_
  refine g_sub [2, 3, 1, 0] rfl ?_
  exact A1 (t1 &&& t0, x4 + (1 : Int32), s174) (Option.some.inj hf).symm
theorem w_X9_compare_126 {X : gX} {x2 : Int32} {x3 : Int32} {x4 : Int32} {σ : sg} {r0 : (Int32 × sg)} {r1 : ((Int32 × Int32 × sg) ⊕ (Int32 × sg))} (C : gC X cX9_compare 5 RX9 (some .int) rm_X9_compare)  (hQ : gQ X (qI (XG X) r0.1 r0.2)) (A1 : ∀ b, r1 = .inl b → G X 5 b.2.2 126 [(0, .ref (Xd X 157)), (2, .int x2), (3, .int b.1), (4, .int b.2.1)] []) (B1 : ∀ b, r1 = .inr b → b = r0) (hf : B_X9_compare_126 x2 x3 x4 σ = some r1) : G X 5 σ 126 [(0, .ref (Xd X 157)), (2, .int x2), (3, .int x3), (4, .int x4)] [] := by
  unfold B_X9_compare_126 at hf
  refine g_iload C 3 dX9_compare_126 rfl ?_
  refine g_aload_n C 0 dX9_compare_128 rfl ?_
  refine g_getr C 9 26 (731) (by decide) sh_157 rfl vc_9 (by decide) inXX9 wfl_687 dX9_compare_129 ?_
  refine g_alen C (n := 24) (v := 24) (r := 731) rfl rfl dX9_compare_132 ?_
  refine g_icmp_ge C 181 hf dX9_compare_133 (by decide) (fun hf => ?_) (fun hf => ?_)
  · refine g_iload_n C 1 dX9_compare_181 rfl ?_
    refine g_if_ne C 190 hf dX9_compare_182 (by decide) (fun hf => ?_) (fun hf => ?_)
    · refine g_bipush C (v := (-7)) dX9_compare_185 rfl ?_
      refine g_goto C 199 dX9_compare_187 (by decide) ?_
      have e0 : r0 = ((-7 : Int32), σ) := (B1 _ (Option.some.inj hf).symm).symm
      exact g_iret C rfl hQ (by rw [e0]) rfl dX9_compare_199
    · refine g_iload_n C 2 dX9_compare_190 rfl ?_
      refine g_if_eq C 198 hf dX9_compare_191 (by decide) (fun hf => ?_) (fun hf => ?_)
      · refine g_iconst C (v := 0) dX9_compare_198 rfl ?_
        have e0 : r0 = ((0 : Int32), σ) := (B1 _ (Option.some.inj hf).symm).symm
        exact g_iret C rfl hQ (by rw [e0]) rfl dX9_compare_199
      · refine g_iconst C (v := 1) dX9_compare_194 rfl ?_
        refine g_goto C 199 dX9_compare_195 (by decide) ?_
        have e0 : r0 = ((1 : Int32), σ) := (B1 _ (Option.some.inj hf).symm).symm
        exact g_iret C rfl hQ (by rw [e0]) rfl dX9_compare_199
  · refine g_iload_n C 2 dX9_compare_136 rfl ?_
    refine g_aload_n C 0 dX9_compare_137 rfl ?_
    refine g_getr C 9 28 (733) (by decide) sh_157 rfl vc_9 (by decide) inXX9 wfl_689 dX9_compare_138 ?_
    refine g_iload C 3 dX9_compare_141 rfl ?_
    obtain ⟨v143, h1, hf⟩ := g_bind hf
    refine g_iald C h1 dX9_compare_143 ?_
    clear h1
    refine g_aload_n C 0 dX9_compare_144 rfl ?_
    refine g_getr C 9 26 (731) (by decide) sh_157 rfl vc_9 (by decide) inXX9 wfl_687 dX9_compare_145 ?_
    refine g_iload C 3 dX9_compare_148 rfl ?_
    obtain ⟨v150, h1, hf⟩ := g_bind hf
    refine g_iald C h1 dX9_compare_150 ?_
    clear h1
    refine g_icmp_ne C 158 hf dX9_compare_151 (by decide) (fun hf => ?_) (fun hf => ?_)
    · refine g_iconst C (v := 1) dX9_compare_154 rfl ?_
      refine g_goto C 159 dX9_compare_155 (by decide) ?_
      refine g_sub [0, 1, 3] rfl ?_
      exact w_X9_compare_159 C  hQ A1 B1 hf
    · refine g_iconst C (v := 0) dX9_compare_158 rfl ?_
      refine g_sub [0, 1, 3] rfl ?_
      exact w_X9_compare_159 C  hQ A1 B1 hf
theorem wl_X9_compare_126 {X : gX} {x2 : Int32} {r0 : (Int32 × sg)} (C : gC X cX9_compare 5 RX9 (some .int) rm_X9_compare)  (hQ : gQ X (qI (XG X) r0.1 r0.2))  {n : Nat} {a : (Int32 × Int32 × sg)} (hf : L_X9_compare_126 x2 n a = some r0) : G X 5 a.2.2 126 [(0, .ref (Xd X 157)), (2, .int x2), (3, .int a.1), (4, .int a.2.1)] [] := by
  unfold L_X9_compare_126 at hf
  have key := g_loop_ind (res := r0) (f := fun a => B_X9_compare_126 x2 a.1 a.2.1 a.2.2) (P := fun a => G X 5 a.2.2 126 [(0, .ref (Xd X 157)), (2, .int x2), (3, .int a.1), (4, .int a.2.1)] []) (fun a r1 h1 k1 k2 => w_X9_compare_126 (x3 := a.1) (x4 := a.2.1) (σ := a.2.2) C  hQ  k1 k2 h1)
  exact key n a hf
theorem w_X9_compare_122 {X : gX} {x2 : Int32} {t0 : Int32} {σ : sg} {r0 : (Int32 × sg)} (C : gC X cX9_compare 5 RX9 (some .int) rm_X9_compare)  (hQ : gQ X (qI (XG X) r0.1 r0.2))  (hf : J_X9_compare_122 x2 t0 σ = some r0) : G X 5 σ 122 [(0, .ref (Xd X 157)), (2, .int x2)] [.int t0] := by
  unfold J_X9_compare_122 at hf
  refine g_istore_n C (lv' := [(3, .int t0), (0, .ref (Xd X 157)), (2, .int x2)]) dX9_compare_122 (by decide) rfl ?_
  refine g_iconst C (v := 0) dX9_compare_123 rfl ?_
  refine g_istore C (lv' := [(4, .int (0 : Int32)), (3, .int t0), (0, .ref (Xd X 157)), (2, .int x2)]) dX9_compare_124 (by decide) rfl ?_
  refine g_sub [2, 3, 1, 0] rfl ?_
  exact wl_X9_compare_126 (a := (t0, (0 : Int32), σ)) C  hQ  hf
theorem w_X9_compare_121 {X : gX} {x2 : Int32} {σ : sg} {r0 : (Int32 × sg)} (C : gC X cX9_compare 5 RX9 (some .int) rm_X9_compare)  (hQ : gQ X (qI (XG X) r0.1 r0.2))  (hf : J_X9_compare_121 x2 σ = some r0) : G X 5 σ 121 [(0, .ref (Xd X 157)), (2, .int x2)] [] := by
  unfold J_X9_compare_121 at hf
  refine g_iconst C (v := 0) dX9_compare_121 rfl ?_
  exact w_X9_compare_122 C  hQ  hf
theorem w_X9_compare_61 {X : gX} {x2 : Int32} {x3 : Int32} {σ : sg} {r0 : (Int32 × sg)} {r1 : ((Int32 × sg) ⊕ (Int32 × sg))} (C : gC X cX9_compare 5 RX9 (some .int) rm_X9_compare)  (hQ : gQ X (qI (XG X) r0.1 r0.2)) (A1 : ∀ b, r1 = .inl b → G X 5 b.2 61 [(0, .ref (Xd X 157)), (2, .int x2), (3, .int b.1)] []) (B1 : ∀ b, r1 = .inr b → b = r0) (hf : B_X9_compare_61 x2 x3 σ = some r1) : G X 5 σ 61 [(0, .ref (Xd X 157)), (2, .int x2), (3, .int x3)] [] := by
  unfold B_X9_compare_61 at hf
  refine g_iload_n C 2 dX9_compare_61 rfl ?_
  refine g_aload_n C 0 dX9_compare_62 rfl ?_
  refine g_getr C 9 26 (731) (by decide) sh_157 rfl vc_9 (by decide) inXX9 wfl_687 dX9_compare_63 ?_
  refine g_alen C (n := 24) (v := 24) (r := 731) rfl rfl dX9_compare_66 ?_
  refine g_icmp_ge C 100 hf dX9_compare_67 (by decide) (fun hf => ?_) (fun hf => ?_)
  · refine g_iload_n C 1 dX9_compare_100 rfl ?_
    refine g_if_eq C 121 hf dX9_compare_101 (by decide) (fun hf => ?_) (fun hf => ?_)
    · refine g_sub [0, 1] rfl ?_
      obtain ⟨t, h1, hf⟩ := g_bind hf
      exact w_X9_compare_121 C  hQ  (h1.trans (congrArg some ((B1 _ (Option.some.inj hf).symm).symm).symm))
    · refine g_aload_n C 0 dX9_compare_104 rfl ?_
      refine g_aload_n C 0 dX9_compare_105 rfl ?_
      refine g_geti C 9 29 (by decide) sh_157 rfl vc_9 (by decide) inXX9 wfl_690 dX9_compare_106 ?_
      refine g_iconst C (v := 1) dX9_compare_109 rfl ?_
      refine g_iadd C dX9_compare_110 ?_
      obtain ⟨q111, h1, hf⟩ := g_bind hf
      refine g_callVi C 1 [.int ((σ 157 29) + (1 : Int32))] (c_X9_executeBundles (Xl X) (gC_I C)  h1) ⟨wml_1015, wim_1017, wsp_39, win_10, wcd_1018⟩ (by decide) sh_157 vc_9 rfl hd_X9_executeBundles ⟨rfl, rfl⟩ ⟨Nat.le_of_ble_eq_true rfl, Nat.le_of_ble_eq_true rfl⟩ rfl rfl (Nat.le_of_ble_eq_true rfl) dX9_compare_111 ?_
      clear h1
      refine g_if_eq C 121 hf dX9_compare_114 (by decide) (fun hf => ?_) (fun hf => ?_)
      · refine g_sub [0, 1] rfl ?_
        obtain ⟨t, h1, hf⟩ := g_bind hf
        exact w_X9_compare_121 C  hQ  (h1.trans (congrArg some ((B1 _ (Option.some.inj hf).symm).symm).symm))
      · refine g_iconst C (v := 1) dX9_compare_117 rfl ?_
        refine g_goto C 122 dX9_compare_118 (by decide) ?_
        refine g_sub [0, 1] rfl ?_
        obtain ⟨t, h1, hf⟩ := g_bind hf
        exact w_X9_compare_122 C  hQ  (h1.trans (congrArg some ((B1 _ (Option.some.inj hf).symm).symm).symm))
  · refine g_aload_n C 0 dX9_compare_70 rfl ?_
    refine g_getr C 9 28 (733) (by decide) sh_157 rfl vc_9 (by decide) inXX9 wfl_689 dX9_compare_71 ?_
    refine g_iload_n C 2 dX9_compare_74 rfl ?_
    refine g_aload_n C 0 dX9_compare_75 rfl ?_
    refine g_getr C 9 26 (731) (by decide) sh_157 rfl vc_9 (by decide) inXX9 wfl_687 dX9_compare_76 ?_
    refine g_iload_n C 2 dX9_compare_79 rfl ?_
    obtain ⟨v80, h1, hf⟩ := g_bind hf
    refine g_iald C h1 dX9_compare_80 ?_
    clear h1
    obtain ⟨s81, h1, hf⟩ := g_bind hf
    refine g_iast C h1 dX9_compare_81 ?_
    clear h1
    refine g_aload_n C 0 dX9_compare_82 rfl ?_
    refine g_getr C 9 26 (731) (by decide) sh_157 rfl vc_9 (by decide) inXX9 wfl_687 dX9_compare_83 ?_
    refine g_iload_n C 2 dX9_compare_86 rfl ?_
    refine g_aload_n C 0 dX9_compare_87 rfl ?_
    refine g_getr C 9 27 (732) (by decide) sh_157 rfl vc_9 (by decide) inXX9 wfl_688 dX9_compare_88 ?_
    refine g_iload_n C 2 dX9_compare_91 rfl ?_
    obtain ⟨v92, h1, hf⟩ := g_bind hf
    refine g_iald C h1 dX9_compare_92 ?_
    clear h1
    obtain ⟨s93, h1, hf⟩ := g_bind hf
    refine g_iast C h1 dX9_compare_93 ?_
    clear h1
    refine g_iinc C (v := x3 + (1 : Int32)) (lv' := [(3, .int (x3 + (1 : Int32))), (0, .ref (Xd X 157)), (2, .int x2)]) 2 dX9_compare_94 rfl rfl (by decide) rfl ?_
    refine g_goto C 61 dX9_compare_97 (by decide) ?_
    refine g_sub [1, 2, 0] rfl ?_
    exact A1 (x3 + (1 : Int32), s93) (Option.some.inj hf).symm
theorem wl_X9_compare_61 {X : gX} {x2 : Int32} {r0 : (Int32 × sg)} (C : gC X cX9_compare 5 RX9 (some .int) rm_X9_compare)  (hQ : gQ X (qI (XG X) r0.1 r0.2))  {n : Nat} {a : (Int32 × sg)} (hf : L_X9_compare_61 x2 n a = some r0) : G X 5 a.2 61 [(0, .ref (Xd X 157)), (2, .int x2), (3, .int a.1)] [] := by
  unfold L_X9_compare_61 at hf
  have key := g_loop_ind (res := r0) (f := fun a => B_X9_compare_61 x2 a.1 a.2) (P := fun a => G X 5 a.2 61 [(0, .ref (Xd X 157)), (2, .int x2), (3, .int a.1)] []) (fun a r1 h1 k1 k2 => w_X9_compare_61 (x3 := a.1) (σ := a.2) C  hQ  k1 k2 h1)
  exact key n a hf
theorem w_X9_compare_26 {X : gX} {p1 : Int32} {x2 : Int32} {σ : sg} {r0 : (Int32 × sg)} {r1 : ((Int32 × sg) ⊕ (Int32 × sg))} (C : gC X cX9_compare 5 RX9 (some .int) rm_X9_compare)  (hQ : gQ X (qI (XG X) r0.1 r0.2)) (A1 : ∀ b, r1 = .inl b → G X 5 b.2 26 [(0, .ref (Xd X 157)), (1, .int p1), (2, .int b.1)] []) (B1 : ∀ b, r1 = .inr b → b = r0) (hf : B_X9_compare_26 p1 x2 σ = some r1) : G X 5 σ 26 [(0, .ref (Xd X 157)), (1, .int p1), (2, .int x2)] [] := by
  unfold B_X9_compare_26 at hf
  refine g_iload_n C 2 dX9_compare_26 rfl ?_
  refine g_aload_n C 0 dX9_compare_27 rfl ?_
  refine g_getr C 9 26 (731) (by decide) sh_157 rfl vc_9 (by decide) inXX9 wfl_687 dX9_compare_28 ?_
  refine g_alen C (n := 24) (v := 24) (r := 731) rfl rfl dX9_compare_31 ?_
  refine g_icmp_ge C 53 hf dX9_compare_32 (by decide) (fun hf => ?_) (fun hf => ?_)
  · refine g_aload_n C 0 dX9_compare_53 rfl ?_
    refine g_iload_n C 1 dX9_compare_54 rfl ?_
    obtain ⟨q55, h1, hf⟩ := g_bind hf
    refine g_callVi C 1 [.int p1] (c_X9_execute (Xl X) (gC_I C)  h1) ⟨wml_995, wim_997, wsp_35, win_10, wcd_998⟩ (by decide) sh_157 vc_9 rfl hd_X9_execute ⟨rfl, rfl⟩ ⟨Nat.le_of_ble_eq_true rfl, Nat.le_of_ble_eq_true rfl⟩ rfl rfl (Nat.le_of_ble_eq_true rfl) dX9_compare_55 ?_
    clear h1
    refine g_istore_n C (lv' := [(2, .int q55.1), (0, .ref (Xd X 157)), (1, .int p1)]) dX9_compare_58 (by decide) rfl ?_
    refine g_iconst C (v := 0) dX9_compare_59 rfl ?_
    refine g_istore_n C (lv' := [(3, .int (0 : Int32)), (2, .int q55.1), (0, .ref (Xd X 157)), (1, .int p1)]) dX9_compare_60 (by decide) rfl ?_
    refine g_sub [2, 1, 0] rfl ?_
    obtain ⟨t, h1, hf⟩ := g_bind hf
    exact wl_X9_compare_61 (a := ((0 : Int32), q55.2)) C  hQ  (h1.trans (congrArg some ((B1 _ (Option.some.inj hf).symm).symm).symm))
  · refine g_aload_n C 0 dX9_compare_35 rfl ?_
    refine g_getr C 9 27 (732) (by decide) sh_157 rfl vc_9 (by decide) inXX9 wfl_688 dX9_compare_36 ?_
    refine g_iload_n C 2 dX9_compare_39 rfl ?_
    refine g_aload_n C 0 dX9_compare_40 rfl ?_
    refine g_getr C 9 26 (731) (by decide) sh_157 rfl vc_9 (by decide) inXX9 wfl_687 dX9_compare_41 ?_
    refine g_iload_n C 2 dX9_compare_44 rfl ?_
    obtain ⟨v45, h1, hf⟩ := g_bind hf
    refine g_iald C h1 dX9_compare_45 ?_
    clear h1
    obtain ⟨s46, h1, hf⟩ := g_bind hf
    refine g_iast C h1 dX9_compare_46 ?_
    clear h1
    refine g_iinc C (v := x2 + (1 : Int32)) (lv' := [(2, .int (x2 + (1 : Int32))), (0, .ref (Xd X 157)), (1, .int p1)]) 2 dX9_compare_47 rfl rfl (by decide) rfl ?_
    refine g_goto C 26 dX9_compare_50 (by decide) ?_
    refine g_sub [1, 2, 0] rfl ?_
    exact A1 (x2 + (1 : Int32), s46) (Option.some.inj hf).symm
theorem wl_X9_compare_26 {X : gX} {p1 : Int32} {r0 : (Int32 × sg)} (C : gC X cX9_compare 5 RX9 (some .int) rm_X9_compare)  (hQ : gQ X (qI (XG X) r0.1 r0.2))  {n : Nat} {a : (Int32 × sg)} (hf : L_X9_compare_26 p1 n a = some r0) : G X 5 a.2 26 [(0, .ref (Xd X 157)), (1, .int p1), (2, .int a.1)] [] := by
  unfold L_X9_compare_26 at hf
  have key := g_loop_ind (res := r0) (f := fun a => B_X9_compare_26 p1 a.1 a.2) (P := fun a => G X 5 a.2 26 [(0, .ref (Xd X 157)), (1, .int p1), (2, .int a.1)] []) (fun a r1 h1 k1 k2 => w_X9_compare_26 (x2 := a.1) (σ := a.2) C  hQ  k1 k2 h1)
  exact key n a hf
theorem w_X9_compare_e {X : gX} {σ : sg} {p1 : Int32} {r0 : (Int32 × sg)} (C : gC X cX9_compare 5 RX9 (some .int) rm_X9_compare)  (hQ : gQ X (qI (XG X) r0.1 r0.2)) (hf : f_X9_compare σ p1 = some r0) : G X 5 σ 0 [(0, .ref (Xd X 157)), (1, .int p1)] [] := by
  unfold f_X9_compare at hf
  refine g_iload_n C 1 dX9_compare_0 rfl ?_
  refine g_iconst C (v := 0) dX9_compare_1 rfl ?_
  refine g_sipush C (v := 300) dX9_compare_2 rfl ?_
  obtain ⟨v5, h1, hf⟩ := g_bind hf
  refine g_callSi C 3 [.int p1, .int (0 : Int32), .int (300 : Int32)] (c_X9_isBetween (Xl X) (gC_I C)  h1) ⟨wml_771, wst_772, win_10, wcd_773⟩ hd_X9_isBetween ⟨rfl, rfl⟩ ⟨Nat.le_of_ble_eq_true rfl, Nat.le_of_ble_eq_true rfl⟩ rfl rfl (Nat.le_of_ble_eq_true rfl) dX9_compare_5 ?_
  clear h1
  refine g_if_ne C 14 hf dX9_compare_8 (by decide) (fun hf => ?_) (fun hf => ?_)
  · refine g_bipush C (v := (-2)) dX9_compare_11 rfl ?_
    have e0 : r0 = ((-2 : Int32), σ) := (Option.some.inj hf).symm
    exact g_iret C rfl hQ (by rw [e0]) rfl dX9_compare_13
  · refine g_aload_n C 0 dX9_compare_14 rfl ?_
    refine g_geti C 9 16 (by decide) sh_157 rfl vc_9 (by decide) inXX9 wfl_677 dX9_compare_15 ?_
    refine g_if_ne C 24 hf dX9_compare_18 (by decide) (fun hf => ?_) (fun hf => ?_)
    · refine g_bipush C (v := (-5)) dX9_compare_21 rfl ?_
      have e0 : r0 = ((-5 : Int32), σ) := (Option.some.inj hf).symm
      exact g_iret C rfl hQ (by rw [e0]) rfl dX9_compare_23
    · refine g_iconst C (v := 0) dX9_compare_24 rfl ?_
      refine g_istore_n C (lv' := [(2, .int (0 : Int32)), (0, .ref (Xd X 157)), (1, .int p1)]) dX9_compare_25 (by decide) rfl ?_
      refine g_sub [1, 2, 0] rfl ?_
      exact wl_X9_compare_26 (a := ((0 : Int32), σ)) C  hQ  hf
theorem c_X9_compare (l : Launch) {Gw : gW} (hI : g_I Gw) {σ : sg} {p1 : Int32} {r : (Int32 × sg)}  (hf : f_X9_compare σ p1 = some r) : gM l Gw yX9_compare cX9_compare 5 (some .int) rm_X9_compare [.ref (Gw.2.2 157), .int p1] σ (qI (Gw) r.1 r.2) := by
  refine g_met hI (by decide) (Nat.le_of_ble_eq_true rfl) (fun X h1 h2 C hQ => ?_)
  subst h1; subst h2
  exact w_X9_compare_e C  hQ hf
