theorem dX7_stopsBehind_0 : decode cX7_stopsBehind 0 = .ok (.aload_n 0, 1) := by decide +kernel
theorem dX7_stopsBehind_1 : decode cX7_stopsBehind 1 = .ok (.getfield 16, 3) := by decide +kernel
theorem dX7_stopsBehind_4 : decode cX7_stopsBehind 4 = .ok (.iload_n 1, 1) := by decide +kernel
theorem dX7_stopsBehind_5 : decode cX7_stopsBehind 5 = .ok (.iaload, 1) := by decide +kernel
theorem dX7_stopsBehind_6 : decode cX7_stopsBehind 6 = .ok (.iload_n 2, 1) := by decide +kernel
theorem dX7_stopsBehind_7 : decode cX7_stopsBehind 7 = .ok (.ishr, 1) := by decide +kernel
theorem dX7_stopsBehind_8 : decode cX7_stopsBehind 8 = .ok (.iconst 1, 1) := by decide +kernel
theorem dX7_stopsBehind_9 : decode cX7_stopsBehind 9 = .ok (.iand, 1) := by decide +kernel
theorem dX7_stopsBehind_10 : decode cX7_stopsBehind 10 = .ok (.ifCond .eq 7, 3) := by decide +kernel
theorem dX7_stopsBehind_13 : decode cX7_stopsBehind 13 = .ok (.iconst 1, 1) := by decide +kernel
theorem dX7_stopsBehind_14 : decode cX7_stopsBehind 14 = .ok (.goto 4, 3) := by decide +kernel
theorem dX7_stopsBehind_17 : decode cX7_stopsBehind 17 = .ok (.iconst 0, 1) := by decide +kernel
theorem dX7_stopsBehind_18 : decode cX7_stopsBehind 18 = .ok (.ireturn, 1) := by decide +kernel
abbrev rm_X7_stopsBehind : Room := { frames := 0, cells := 0, slots := 0, locals := 0 }
theorem w_X7_stopsBehind_e {X : gX} {σ : sg} {p1 : Int32} {p2 : Int32} {r0 : Int32} (C : gC X cX7_stopsBehind 3 RX7 (some .boolean) rm_X7_stopsBehind)  (hQ : gQ X (qI (XG X) r0 σ)) (hf : f_X7_stopsBehind σ p1 p2 = some r0) : G X 3 σ 0 [(0, .ref (Xd X 61)), (1, .int p1), (2, .int p2)] [] := by
  unfold f_X7_stopsBehind at hf
  refine g_aload_n C 0 dX7_stopsBehind_0 rfl ?_
  refine g_getr C 7 1 (71) (by decide) sh_61 rfl vc_7 (by decide) inXX7 wfl_108 dX7_stopsBehind_1 ?_
  refine g_iload_n C 1 dX7_stopsBehind_4 rfl ?_
  obtain ⟨v5, h1, hf⟩ := g_bind hf
  refine g_iald C h1 dX7_stopsBehind_5 ?_
  clear h1
  refine g_iload_n C 2 dX7_stopsBehind_6 rfl ?_
  refine g_ishr C dX7_stopsBehind_7 ?_
  refine g_iconst C (v := 1) dX7_stopsBehind_8 rfl ?_
  refine g_iand C dX7_stopsBehind_9 ?_
  refine g_if_eq C 17 hf dX7_stopsBehind_10 (by decide) (fun hf => ?_) (fun hf => ?_)
  · refine g_iconst C (v := 0) dX7_stopsBehind_17 rfl ?_
    have e0 : r0 = (0 : Int32) := (Option.some.inj hf).symm
    exact g_iret C rfl hQ (by rw [e0]) rfl dX7_stopsBehind_18
  · refine g_iconst C (v := 1) dX7_stopsBehind_13 rfl ?_
    refine g_goto C 18 dX7_stopsBehind_14 (by decide) ?_
    have e0 : r0 = (1 : Int32) := (Option.some.inj hf).symm
    exact g_iret C rfl hQ (by rw [e0]) rfl dX7_stopsBehind_18
theorem c_X7_stopsBehind (l : Launch) {Gw : gW} (hI : g_I Gw) {σ : sg} {p1 : Int32} {p2 : Int32} {r : Int32}  (hf : f_X7_stopsBehind σ p1 p2 = some r) : gM l Gw yX7_stopsBehind cX7_stopsBehind 3 (some .boolean) rm_X7_stopsBehind [.ref (Gw.2.2 61), .int p1, .int p2] σ (qI (Gw) r σ) := by
  refine g_met hI (by decide) (Nat.le_of_ble_eq_true rfl) (fun X h1 h2 C hQ => ?_)
  subst h1; subst h2
  exact w_X7_stopsBehind_e C  hQ hf
theorem dX2_fill_0 : decode cX2_fill 0 = .ok (.aload_n 0, 1) := by decide +kernel
theorem dX2_fill_1 : decode cX2_fill 1 = .ok (.iload_n 2, 1) := by decide +kernel
theorem dX2_fill_2 : decode cX2_fill 2 = .ok (.putfield 33, 3) := by decide +kernel
theorem dX2_fill_5 : decode cX2_fill 5 = .ok (.aload_n 0, 1) := by decide +kernel
theorem dX2_fill_6 : decode cX2_fill 6 = .ok (.iload_n 3, 1) := by decide +kernel
theorem dX2_fill_7 : decode cX2_fill 7 = .ok (.putfield 36, 3) := by decide +kernel
theorem dX2_fill_10 : decode cX2_fill 10 = .ok (.iconst 0, 1) := by decide +kernel
theorem dX2_fill_11 : decode cX2_fill 11 = .ok (.istore 4, 2) := by decide +kernel
theorem dX2_fill_13 : decode cX2_fill 13 = .ok (.iload 4, 2) := by decide +kernel
theorem dX2_fill_15 : decode cX2_fill 15 = .ok (.iconst 3, 1) := by decide +kernel
theorem dX2_fill_16 : decode cX2_fill 16 = .ok (.if_icmp .ge 122, 3) := by decide +kernel
theorem dX2_fill_19 : decode cX2_fill 19 = .ok (.aload_n 0, 1) := by decide +kernel
theorem dX2_fill_20 : decode cX2_fill 20 = .ok (.getfield 15, 3) := by decide +kernel
theorem dX2_fill_23 : decode cX2_fill 23 = .ok (.iload 4, 2) := by decide +kernel
theorem dX2_fill_25 : decode cX2_fill 25 = .ok (.bipush (-4), 2) := by decide +kernel
theorem dX2_fill_27 : decode cX2_fill 27 = .ok (.iastore, 1) := by decide +kernel
theorem dX2_fill_28 : decode cX2_fill 28 = .ok (.aload_n 0, 1) := by decide +kernel
theorem dX2_fill_29 : decode cX2_fill 29 = .ok (.getfield 33, 3) := by decide +kernel
theorem dX2_fill_32 : decode cX2_fill 32 = .ok (.aload_n 0, 1) := by decide +kernel
theorem dX2_fill_33 : decode cX2_fill 33 = .ok (.getfield 30, 3) := by decide +kernel
theorem dX2_fill_36 : decode cX2_fill 36 = .ok (.if_icmp .ge 73, 3) := by decide +kernel
theorem dX2_fill_39 : decode cX2_fill 39 = .ok (.aload_n 0, 1) := by decide +kernel
theorem dX2_fill_40 : decode cX2_fill 40 = .ok (.getfield 18, 3) := by decide +kernel
theorem dX2_fill_43 : decode cX2_fill 43 = .ok (.aload_n 0, 1) := by decide +kernel
theorem dX2_fill_44 : decode cX2_fill 44 = .ok (.getfield 33, 3) := by decide +kernel
theorem dX2_fill_47 : decode cX2_fill 47 = .ok (.invokevirtual 39, 3) := by decide +kernel
theorem dX2_fill_50 : decode cX2_fill 50 = .ok (.aload_n 0, 1) := by decide +kernel
theorem dX2_fill_51 : decode cX2_fill 51 = .ok (.getfield 22, 3) := by decide +kernel
theorem dX2_fill_54 : decode cX2_fill 54 = .ok (.getfield 45, 3) := by decide +kernel
theorem dX2_fill_57 : decode cX2_fill 57 = .ok (.iload_n 1, 1) := by decide +kernel
theorem dX2_fill_58 : decode cX2_fill 58 = .ok (.aaload, 1) := by decide +kernel
theorem dX2_fill_59 : decode cX2_fill 59 = .ok (.iload 4, 2) := by decide +kernel
theorem dX2_fill_61 : decode cX2_fill 61 = .ok (.iaload, 1) := by decide +kernel
theorem dX2_fill_62 : decode cX2_fill 62 = .ok (.invokestatic 51, 3) := by decide +kernel
theorem dX2_fill_65 : decode cX2_fill 65 = .ok (.ifCond .eq 44, 3) := by decide +kernel
theorem dX2_fill_68 : decode cX2_fill 68 = .ok (.aload_n 0, 1) := by decide +kernel
theorem dX2_fill_69 : decode cX2_fill 69 = .ok (.invokevirtual 55, 3) := by decide +kernel
theorem dX2_fill_72 : decode cX2_fill 72 = .ok (.ifCond .eq 37, 3) := by decide +kernel
theorem dX2_fill_75 : decode cX2_fill 75 = .ok (.aload_n 0, 1) := by decide +kernel
theorem dX2_fill_76 : decode cX2_fill 76 = .ok (.getfield 15, 3) := by decide +kernel
theorem dX2_fill_79 : decode cX2_fill 79 = .ok (.iload 4, 2) := by decide +kernel
theorem dX2_fill_81 : decode cX2_fill 81 = .ok (.aload_n 0, 1) := by decide +kernel
theorem dX2_fill_82 : decode cX2_fill 82 = .ok (.getfield 33, 3) := by decide +kernel
theorem dX2_fill_85 : decode cX2_fill 85 = .ok (.iastore, 1) := by decide +kernel
theorem dX2_fill_86 : decode cX2_fill 86 = .ok (.aload_n 0, 1) := by decide +kernel
theorem dX2_fill_87 : decode cX2_fill 87 = .ok (.getfield 9, 3) := by decide +kernel
theorem dX2_fill_90 : decode cX2_fill 90 = .ok (.aload_n 0, 1) := by decide +kernel
theorem dX2_fill_91 : decode cX2_fill 91 = .ok (.getfield 33, 3) := by decide +kernel
theorem dX2_fill_94 : decode cX2_fill 94 = .ok (.aload_n 0, 1) := by decide +kernel
theorem dX2_fill_95 : decode cX2_fill 95 = .ok (.getfield 36, 3) := by decide +kernel
theorem dX2_fill_98 : decode cX2_fill 98 = .ok (.iastore, 1) := by decide +kernel
theorem dX2_fill_99 : decode cX2_fill 99 = .ok (.aload_n 0, 1) := by decide +kernel
theorem dX2_fill_100 : decode cX2_fill 100 = .ok (.dup, 1) := by decide +kernel
theorem dX2_fill_101 : decode cX2_fill 101 = .ok (.getfield 33, 3) := by decide +kernel
theorem dX2_fill_104 : decode cX2_fill 104 = .ok (.iconst 1, 1) := by decide +kernel
theorem dX2_fill_105 : decode cX2_fill 105 = .ok (.iadd, 1) := by decide +kernel
theorem dX2_fill_106 : decode cX2_fill 106 = .ok (.putfield 33, 3) := by decide +kernel
theorem dX2_fill_109 : decode cX2_fill 109 = .ok (.aload_n 0, 1) := by decide +kernel
theorem dX2_fill_110 : decode cX2_fill 110 = .ok (.getfield 22, 3) := by decide +kernel
theorem dX2_fill_113 : decode cX2_fill 113 = .ok (.iload_n 1, 1) := by decide +kernel
theorem dX2_fill_114 : decode cX2_fill 114 = .ok (.iload 4, 2) := by decide +kernel
theorem dX2_fill_116 : decode cX2_fill 116 = .ok (.invokevirtual 59, 3) := by decide +kernel
theorem dX2_fill_119 : decode cX2_fill 119 = .ok (.ifCond .eq 13, 3) := by decide +kernel
theorem dX2_fill_122 : decode cX2_fill 122 = .ok (.aload_n 0, 1) := by decide +kernel
theorem dX2_fill_123 : decode cX2_fill 123 = .ok (.dup, 1) := by decide +kernel
theorem dX2_fill_124 : decode cX2_fill 124 = .ok (.getfield 36, 3) := by decide +kernel
theorem dX2_fill_127 : decode cX2_fill 127 = .ok (.iconst 1, 1) := by decide +kernel
theorem dX2_fill_128 : decode cX2_fill 128 = .ok (.iadd, 1) := by decide +kernel
theorem dX2_fill_129 : decode cX2_fill 129 = .ok (.putfield 36, 3) := by decide +kernel
theorem dX2_fill_132 : decode cX2_fill 132 = .ok (.iinc 4 1, 3) := by decide +kernel
theorem dX2_fill_135 : decode cX2_fill 135 = .ok (.goto (-122), 3) := by decide +kernel
theorem dX2_fill_138 : decode cX2_fill 138 = .ok (.return_, 1) := by decide +kernel
abbrev rm_X2_fill : Room := { frames := 3, cells := 0, slots := 0, locals := 107 }
theorem w_X2_fill_132 {X : gX} {p1 : Int32} {x4 : Int32} {σ : sg} {r0 : sg} {r1 : ((Int32 × sg) ⊕ sg)} (C : gC X cX2_fill 5 RX2 none rm_X2_fill)  (hQ : gQ X (qV (XG X) r0)) (A1 : ∀ b, r1 = .inl b → G X 5 b.2 13 [(0, .ref (Xd X 72)), (1, .int p1), (4, .int b.1)] []) (B1 : ∀ b, r1 = .inr b → b = r0) (hf : J_X2_fill_132 p1 x4 σ = some r1) : G X 5 σ 132 [(0, .ref (Xd X 72)), (1, .int p1), (4, .int x4)] [] := by
  unfold J_X2_fill_132 at hf
  refine g_iinc C (v := x4 + (1 : Int32)) (lv' := [(4, .int (x4 + (1 : Int32))), (0, .ref (Xd X 72)), (1, .int p1)]) 2 dX2_fill_132 rfl rfl (by decide) rfl ?_
  refine g_goto C 13 dX2_fill_135 (by decide) ?_
  refine g_sub [1, 2, 0] rfl ?_
  exact A1 (x4 + (1 : Int32), σ) (Option.some.inj hf).symm
theorem w_X2_fill_109 {X : gX} {p1 : Int32} {x4 : Int32} {σ : sg} {r0 : sg} {r1 : ((Int32 × sg) ⊕ sg)} (C : gC X cX2_fill 5 RX2 none rm_X2_fill)  (hQ : gQ X (qV (XG X) r0)) (A1 : ∀ b, r1 = .inl b → G X 5 b.2 13 [(0, .ref (Xd X 72)), (1, .int p1), (4, .int b.1)] []) (B1 : ∀ b, r1 = .inr b → b = r0) (hf : J_X2_fill_109 p1 x4 σ = some r1) : G X 5 σ 109 [(0, .ref (Xd X 72)), (1, .int p1), (4, .int x4)] [] := by
  unfold J_X2_fill_109 at hf
  refine g_aload_n C 0 dX2_fill_109 rfl ?_
  refine g_getr C 2 1 (61) (by decide) sh_72 rfl vc_2 (by decide) inXX2 wfl_127 dX2_fill_110 ?_
  refine g_iload_n C 1 dX2_fill_113 rfl ?_
  refine g_iload C 2 dX2_fill_114 rfl ?_
  obtain ⟨v116, h1, hf⟩ := g_bind hf
  refine g_callVi C 2 [.int p1, .int x4] (c_X7_stopsBehind (Xl X) (gC_I C)  h1) ⟨wml_476, wim_477, wse_478, win_5, wcd_479⟩ (by decide) sh_61 vc_7 rfl hd_X7_stopsBehind ⟨rfl, rfl⟩ ⟨Nat.le_of_ble_eq_true rfl, Nat.le_of_ble_eq_true rfl⟩ rfl rfl (Nat.le_of_ble_eq_true rfl) dX2_fill_116 ?_
  clear h1
  refine g_if_eq C 132 hf dX2_fill_119 (by decide) (fun hf => ?_) (fun hf => ?_)
  · exact w_X2_fill_132 C  hQ A1 B1 hf
  · refine g_aload_n C 0 dX2_fill_122 rfl ?_
    refine g_dup C dX2_fill_123 rfl ?_
    refine g_geti C 2 7 (by decide) sh_72 rfl vc_2 (by decide) inXX2 wfl_141 dX2_fill_124 ?_
    refine g_iconst C (v := 1) dX2_fill_127 rfl ?_
    refine g_iadd C dX2_fill_128 ?_
    obtain ⟨s129, h1, hf⟩ := g_bind hf
    refine g_put C 2 7 (by decide) sh_72 rfl (by decide) vc_2 (by decide) tyX2 tyX2_ok nmX2 inXX2 wfl_141 rfl (ty := .int) (by decide +kernel) rfl rfl dX2_fill_129 ?_
    rw [Option.some.inj h1]
    clear h1
    exact w_X2_fill_132 C  hQ A1 B1 hf
theorem w_X2_fill_13 {X : gX} {p1 : Int32} {x4 : Int32} {σ : sg} {r0 : sg} {r1 : ((Int32 × sg) ⊕ sg)} (C : gC X cX2_fill 5 RX2 none rm_X2_fill)  (hQ : gQ X (qV (XG X) r0)) (A1 : ∀ b, r1 = .inl b → G X 5 b.2 13 [(0, .ref (Xd X 72)), (1, .int p1), (4, .int b.1)] []) (B1 : ∀ b, r1 = .inr b → b = r0) (hf : B_X2_fill_13 p1 x4 σ = some r1) : G X 5 σ 13 [(0, .ref (Xd X 72)), (1, .int p1), (4, .int x4)] [] := by
  unfold B_X2_fill_13 at hf
  refine g_iload C 2 dX2_fill_13 rfl ?_
  refine g_iconst C (v := 3) dX2_fill_15 rfl ?_
  refine g_icmp_ge C 138 hf dX2_fill_16 (by decide) (fun hf => ?_) (fun hf => ?_)
  · have e0 : r0 = σ := (B1 _ (Option.some.inj hf).symm).symm
    exact g_vret C rfl hQ (by rw [e0]) dX2_fill_138
  · refine g_aload_n C 0 dX2_fill_19 rfl ?_
    refine g_getr C 2 3 (74) (by decide) sh_72 rfl vc_2 (by decide) inXX2 wfl_131 dX2_fill_20 ?_
    refine g_iload C 2 dX2_fill_23 rfl ?_
    refine g_bipush C (v := (-4)) dX2_fill_25 rfl ?_
    obtain ⟨s27, h1, hf⟩ := g_bind hf
    refine g_iast C h1 dX2_fill_27 ?_
    clear h1
    refine g_aload_n C 0 dX2_fill_28 rfl ?_
    refine g_geti C 2 6 (by decide) sh_72 rfl vc_2 (by decide) inXX2 wfl_138 dX2_fill_29 ?_
    refine g_aload_n C 0 dX2_fill_32 rfl ?_
    refine g_geti C 2 5 (by decide) sh_72 rfl vc_2 (by decide) inXX2 wfl_135 dX2_fill_33 ?_
    refine g_icmp_ge C 109 hf dX2_fill_36 (by decide) (fun hf => ?_) (fun hf => ?_)
    · exact w_X2_fill_109 C  hQ A1 B1 hf
    · refine g_aload_n C 0 dX2_fill_39 rfl ?_
      refine g_getr C 2 0 (1) (by decide) sh_72 rfl vc_2 (by decide) inXX2 wfl_126 dX2_fill_40 ?_
      refine g_aload_n C 0 dX2_fill_43 rfl ?_
      refine g_geti C 2 6 (by decide) sh_72 rfl vc_2 (by decide) inXX2 wfl_138 dX2_fill_44 ?_
      obtain ⟨v47, h1, hf⟩ := g_bind hf
      refine g_callVi C 1 [.int (s27 72 6)] (c_X6_operationOf (Xl X) (gC_I C)  h1) ⟨wml_467, wim_332, wse_333, win_2, wcd_334⟩ (by decide) sh_1 vc_6 rfl hd_X6_operationOf ⟨rfl, rfl⟩ ⟨Nat.le_of_ble_eq_true rfl, Nat.le_of_ble_eq_true rfl⟩ rfl rfl (Nat.le_of_ble_eq_true rfl) dX2_fill_47 ?_
      clear h1
      refine g_aload_n C 0 dX2_fill_50 rfl ?_
      refine g_getr C 2 1 (61) (by decide) sh_72 rfl vc_2 (by decide) inXX2 wfl_127 dX2_fill_51 ?_
      refine g_getrN C 7 0 (62) (by decide) sh_61 rfl vc_7 (by decide) inXX7 wfn_106 dX2_fill_54 ?_
      refine g_iload_n C 1 dX2_fill_57 rfl ?_
      obtain ⟨q58, h1, hf⟩ := g_bind hf
      refine g_aald C h1 dX2_fill_58 ?_
      clear h1
      refine g_iload C 2 dX2_fill_59 rfl ?_
      obtain ⟨v61, h1, hf⟩ := g_bind hf
      refine g_iald C h1 dX2_fill_61 ?_
      clear h1
      obtain ⟨v62, h1, hf⟩ := g_bind hf
      refine g_callSi C 2 [.int v47, .int v61] (c_X7_fits (Xl X) (gC_I C)  h1) ⟨wml_468, wst_469, win_5, wcd_470⟩ hd_X7_fits ⟨rfl, rfl⟩ ⟨Nat.le_of_ble_eq_true rfl, Nat.le_of_ble_eq_true rfl⟩ rfl rfl (Nat.le_of_ble_eq_true rfl) dX2_fill_62 ?_
      clear h1
      refine g_if_eq C 109 hf dX2_fill_65 (by decide) (fun hf => ?_) (fun hf => ?_)
      · exact w_X2_fill_109 C  hQ A1 B1 hf
      · refine g_aload_n C 0 dX2_fill_68 rfl ?_
        obtain ⟨v69, h1, hf⟩ := g_bind hf
        refine g_callVi C 0 [] (c_X2_isReady (Xl X) (gC_I C)  h1) ⟨wml_471, wim_473, wsp_2, win_6, wcd_474⟩ (by decide) sh_72 vc_2 rfl hd_X2_isReady ⟨rfl, rfl⟩ ⟨Nat.le_of_ble_eq_true rfl, Nat.le_of_ble_eq_true rfl⟩ rfl rfl (Nat.le_of_ble_eq_true rfl) dX2_fill_69 ?_
        clear h1
        refine g_if_eq C 109 hf dX2_fill_72 (by decide) (fun hf => ?_) (fun hf => ?_)
        · exact w_X2_fill_109 C  hQ A1 B1 hf
        · refine g_aload_n C 0 dX2_fill_75 rfl ?_
          refine g_getr C 2 3 (74) (by decide) sh_72 rfl vc_2 (by decide) inXX2 wfl_131 dX2_fill_76 ?_
          refine g_iload C 2 dX2_fill_79 rfl ?_
          refine g_aload_n C 0 dX2_fill_81 rfl ?_
          refine g_geti C 2 6 (by decide) sh_72 rfl vc_2 (by decide) inXX2 wfl_138 dX2_fill_82 ?_
          obtain ⟨s85, h1, hf⟩ := g_bind hf
          refine g_iast C h1 dX2_fill_85 ?_
          clear h1
          refine g_aload_n C 0 dX2_fill_86 rfl ?_
          refine g_getr C 2 2 (73) (by decide) sh_72 rfl vc_2 (by decide) inXX2 wfl_129 dX2_fill_87 ?_
          refine g_aload_n C 0 dX2_fill_90 rfl ?_
          refine g_geti C 2 6 (by decide) sh_72 rfl vc_2 (by decide) inXX2 wfl_138 dX2_fill_91 ?_
          refine g_aload_n C 0 dX2_fill_94 rfl ?_
          refine g_geti C 2 7 (by decide) sh_72 rfl vc_2 (by decide) inXX2 wfl_141 dX2_fill_95 ?_
          obtain ⟨s98, h1, hf⟩ := g_bind hf
          refine g_iast C h1 dX2_fill_98 ?_
          clear h1
          refine g_aload_n C 0 dX2_fill_99 rfl ?_
          refine g_dup C dX2_fill_100 rfl ?_
          refine g_geti C 2 6 (by decide) sh_72 rfl vc_2 (by decide) inXX2 wfl_138 dX2_fill_101 ?_
          refine g_iconst C (v := 1) dX2_fill_104 rfl ?_
          refine g_iadd C dX2_fill_105 ?_
          obtain ⟨s106, h1, hf⟩ := g_bind hf
          refine g_put C 2 6 (by decide) sh_72 rfl (by decide) vc_2 (by decide) tyX2 tyX2_ok nmX2 inXX2 wfl_138 rfl (ty := .int) (by decide +kernel) rfl rfl dX2_fill_106 ?_
          rw [Option.some.inj h1]
          clear h1
          exact w_X2_fill_109 C  hQ A1 B1 hf
theorem wl_X2_fill_13 {X : gX} {p1 : Int32} {r0 : sg} (C : gC X cX2_fill 5 RX2 none rm_X2_fill)  (hQ : gQ X (qV (XG X) r0))  {n : Nat} {a : (Int32 × sg)} (hf : L_X2_fill_13 p1 n a = some r0) : G X 5 a.2 13 [(0, .ref (Xd X 72)), (1, .int p1), (4, .int a.1)] [] := by
  unfold L_X2_fill_13 at hf
  have key := g_loop_ind (res := r0) (f := fun a => B_X2_fill_13 p1 a.1 a.2) (P := fun a => G X 5 a.2 13 [(0, .ref (Xd X 72)), (1, .int p1), (4, .int a.1)] []) (fun a r1 h1 k1 k2 => w_X2_fill_13 (x4 := a.1) (σ := a.2) C  hQ  k1 k2 h1)
  exact key n a hf
theorem w_X2_fill_e {X : gX} {σ : sg} {p1 : Int32} {p2 : Int32} {p3 : Int32} {r0 : sg} (C : gC X cX2_fill 5 RX2 none rm_X2_fill)  (hQ : gQ X (qV (XG X) r0)) (hf : f_X2_fill σ p1 p2 p3 = some r0) : G X 5 σ 0 [(0, .ref (Xd X 72)), (1, .int p1), (2, .int p2), (3, .int p3)] [] := by
  unfold f_X2_fill at hf
  refine g_aload_n C 0 dX2_fill_0 rfl ?_
  refine g_iload_n C 2 dX2_fill_1 rfl ?_
  obtain ⟨s2, h1, hf⟩ := g_bind hf
  refine g_put C 2 6 (by decide) sh_72 rfl (by decide) vc_2 (by decide) tyX2 tyX2_ok nmX2 inXX2 wfl_138 rfl (ty := .int) (by decide +kernel) rfl rfl dX2_fill_2 ?_
  rw [Option.some.inj h1]
  clear h1
  refine g_aload_n C 0 dX2_fill_5 rfl ?_
  refine g_iload_n C 3 dX2_fill_6 rfl ?_
  obtain ⟨s7, h1, hf⟩ := g_bind hf
  refine g_put C 2 7 (by decide) sh_72 rfl (by decide) vc_2 (by decide) tyX2 tyX2_ok nmX2 inXX2 wfl_141 rfl (ty := .int) (by decide +kernel) rfl rfl dX2_fill_7 ?_
  rw [Option.some.inj h1]
  clear h1
  refine g_iconst C (v := 0) dX2_fill_10 rfl ?_
  refine g_istore C (lv' := [(4, .int (0 : Int32)), (0, .ref (Xd X 72)), (1, .int p1), (2, .int p2), (3, .int p3)]) dX2_fill_11 (by decide) rfl ?_
  refine g_sub [1, 2, 0] rfl ?_
  exact wl_X2_fill_13 (a := ((0 : Int32), s7)) C  hQ  hf
theorem c_X2_fill (l : Launch) {Gw : gW} (hI : g_I Gw) {σ : sg} {p1 : Int32} {p2 : Int32} {p3 : Int32} {r : sg}  (hf : f_X2_fill σ p1 p2 p3 = some r) : gM l Gw yX2_fill cX2_fill 5 none rm_X2_fill [.ref (Gw.2.2 72), .int p1, .int p2, .int p3] σ (qV (Gw) r) := by
  refine g_met hI (by decide) (Nat.le_of_ble_eq_true rfl) (fun X h1 h2 C hQ => ?_)
  subst h1; subst h2
  exact w_X2_fill_e C  hQ hf
theorem dJ6_bitCount_0f7a4_0 : decode cJ6_bitCount_0f7a4 0 = .ok (.iload_n 0, 1) := by decide +kernel
theorem dJ6_bitCount_0f7a4_1 : decode cJ6_bitCount_0f7a4 1 = .ok (.iload_n 0, 1) := by decide +kernel
theorem dJ6_bitCount_0f7a4_2 : decode cJ6_bitCount_0f7a4 2 = .ok (.iconst 1, 1) := by decide +kernel
theorem dJ6_bitCount_0f7a4_3 : decode cJ6_bitCount_0f7a4 3 = .ok (.iushr, 1) := by decide +kernel
theorem dJ6_bitCount_0f7a4_4 : decode cJ6_bitCount_0f7a4 4 = .ok (.ldc_w 265, 3) := by decide +kernel
theorem dJ6_bitCount_0f7a4_7 : decode cJ6_bitCount_0f7a4 7 = .ok (.iand, 1) := by decide +kernel
theorem dJ6_bitCount_0f7a4_8 : decode cJ6_bitCount_0f7a4 8 = .ok (.isub, 1) := by decide +kernel
theorem dJ6_bitCount_0f7a4_9 : decode cJ6_bitCount_0f7a4 9 = .ok (.istore_n 0, 1) := by decide +kernel
theorem dJ6_bitCount_0f7a4_10 : decode cJ6_bitCount_0f7a4 10 = .ok (.iload_n 0, 1) := by decide +kernel
theorem dJ6_bitCount_0f7a4_11 : decode cJ6_bitCount_0f7a4 11 = .ok (.ldc_w 266, 3) := by decide +kernel
theorem dJ6_bitCount_0f7a4_14 : decode cJ6_bitCount_0f7a4 14 = .ok (.iand, 1) := by decide +kernel
theorem dJ6_bitCount_0f7a4_15 : decode cJ6_bitCount_0f7a4 15 = .ok (.iload_n 0, 1) := by decide +kernel
theorem dJ6_bitCount_0f7a4_16 : decode cJ6_bitCount_0f7a4 16 = .ok (.iconst 2, 1) := by decide +kernel
theorem dJ6_bitCount_0f7a4_17 : decode cJ6_bitCount_0f7a4 17 = .ok (.iushr, 1) := by decide +kernel
theorem dJ6_bitCount_0f7a4_18 : decode cJ6_bitCount_0f7a4 18 = .ok (.ldc_w 266, 3) := by decide +kernel
theorem dJ6_bitCount_0f7a4_21 : decode cJ6_bitCount_0f7a4 21 = .ok (.iand, 1) := by decide +kernel
theorem dJ6_bitCount_0f7a4_22 : decode cJ6_bitCount_0f7a4 22 = .ok (.iadd, 1) := by decide +kernel
theorem dJ6_bitCount_0f7a4_23 : decode cJ6_bitCount_0f7a4 23 = .ok (.istore_n 0, 1) := by decide +kernel
theorem dJ6_bitCount_0f7a4_24 : decode cJ6_bitCount_0f7a4 24 = .ok (.iload_n 0, 1) := by decide +kernel
theorem dJ6_bitCount_0f7a4_25 : decode cJ6_bitCount_0f7a4 25 = .ok (.iload_n 0, 1) := by decide +kernel
theorem dJ6_bitCount_0f7a4_26 : decode cJ6_bitCount_0f7a4 26 = .ok (.iconst 4, 1) := by decide +kernel
theorem dJ6_bitCount_0f7a4_27 : decode cJ6_bitCount_0f7a4 27 = .ok (.iushr, 1) := by decide +kernel
theorem dJ6_bitCount_0f7a4_28 : decode cJ6_bitCount_0f7a4 28 = .ok (.iadd, 1) := by decide +kernel
theorem dJ6_bitCount_0f7a4_29 : decode cJ6_bitCount_0f7a4 29 = .ok (.ldc_w 267, 3) := by decide +kernel
theorem dJ6_bitCount_0f7a4_32 : decode cJ6_bitCount_0f7a4 32 = .ok (.iand, 1) := by decide +kernel
theorem dJ6_bitCount_0f7a4_33 : decode cJ6_bitCount_0f7a4 33 = .ok (.istore_n 0, 1) := by decide +kernel
theorem dJ6_bitCount_0f7a4_34 : decode cJ6_bitCount_0f7a4 34 = .ok (.iload_n 0, 1) := by decide +kernel
theorem dJ6_bitCount_0f7a4_35 : decode cJ6_bitCount_0f7a4 35 = .ok (.iload_n 0, 1) := by decide +kernel
theorem dJ6_bitCount_0f7a4_36 : decode cJ6_bitCount_0f7a4 36 = .ok (.bipush 8, 2) := by decide +kernel
theorem dJ6_bitCount_0f7a4_38 : decode cJ6_bitCount_0f7a4 38 = .ok (.iushr, 1) := by decide +kernel
theorem dJ6_bitCount_0f7a4_39 : decode cJ6_bitCount_0f7a4 39 = .ok (.iadd, 1) := by decide +kernel
theorem dJ6_bitCount_0f7a4_40 : decode cJ6_bitCount_0f7a4 40 = .ok (.istore_n 0, 1) := by decide +kernel
theorem dJ6_bitCount_0f7a4_41 : decode cJ6_bitCount_0f7a4 41 = .ok (.iload_n 0, 1) := by decide +kernel
theorem dJ6_bitCount_0f7a4_42 : decode cJ6_bitCount_0f7a4 42 = .ok (.iload_n 0, 1) := by decide +kernel
theorem dJ6_bitCount_0f7a4_43 : decode cJ6_bitCount_0f7a4 43 = .ok (.bipush 16, 2) := by decide +kernel
theorem dJ6_bitCount_0f7a4_45 : decode cJ6_bitCount_0f7a4 45 = .ok (.iushr, 1) := by decide +kernel
theorem dJ6_bitCount_0f7a4_46 : decode cJ6_bitCount_0f7a4 46 = .ok (.iadd, 1) := by decide +kernel
theorem dJ6_bitCount_0f7a4_47 : decode cJ6_bitCount_0f7a4 47 = .ok (.istore_n 0, 1) := by decide +kernel
theorem dJ6_bitCount_0f7a4_48 : decode cJ6_bitCount_0f7a4 48 = .ok (.iload_n 0, 1) := by decide +kernel
theorem dJ6_bitCount_0f7a4_49 : decode cJ6_bitCount_0f7a4 49 = .ok (.bipush 63, 2) := by decide +kernel
theorem dJ6_bitCount_0f7a4_51 : decode cJ6_bitCount_0f7a4 51 = .ok (.iand, 1) := by decide +kernel
theorem dJ6_bitCount_0f7a4_52 : decode cJ6_bitCount_0f7a4 52 = .ok (.ireturn, 1) := by decide +kernel
abbrev rm_J6_bitCount_0f7a4 : Room := { frames := 0, cells := 0, slots := 0, locals := 0 }
theorem w_J6_bitCount_0f7a4_e {X : gX} {σ : sg} {p0 : Int32} {r0 : Int32} (C : gC X cJ6_bitCount_0f7a4 1 RJ6 (some .int) rm_J6_bitCount_0f7a4)  (hQ : gQ X (qI (XG X) r0 σ)) (hf : f_J6_bitCount_0f7a4 σ p0 = some r0) : G X 1 σ 0 [(0, .int p0)] [] := by
  unfold f_J6_bitCount_0f7a4 at hf
  refine g_iload_n C 0 dJ6_bitCount_0f7a4_0 rfl ?_
  refine g_iload_n C 0 dJ6_bitCount_0f7a4_1 rfl ?_
  refine g_iconst C (v := 1) dJ6_bitCount_0f7a4_2 rfl ?_
  refine g_iushr C dJ6_bitCount_0f7a4_3 ?_
  refine g_ldcw C wco_491 dJ6_bitCount_0f7a4_4 ?_
  refine g_iand C dJ6_bitCount_0f7a4_7 ?_
  refine g_isub C dJ6_bitCount_0f7a4_8 ?_
  refine g_istore_n C (lv' := [(0, .int (p0 - ((ushr p0 (1 : Int32)) &&& (1431655765 : Int32))))]) dJ6_bitCount_0f7a4_9 (by decide) rfl ?_
  refine g_iload_n C 0 dJ6_bitCount_0f7a4_10 rfl ?_
  refine g_ldcw C wco_492 dJ6_bitCount_0f7a4_11 ?_
  refine g_iand C dJ6_bitCount_0f7a4_14 ?_
  refine g_iload_n C 0 dJ6_bitCount_0f7a4_15 rfl ?_
  refine g_iconst C (v := 2) dJ6_bitCount_0f7a4_16 rfl ?_
  refine g_iushr C dJ6_bitCount_0f7a4_17 ?_
  refine g_ldcw C wco_492 dJ6_bitCount_0f7a4_18 ?_
  refine g_iand C dJ6_bitCount_0f7a4_21 ?_
  refine g_iadd C dJ6_bitCount_0f7a4_22 ?_
  refine g_istore_n C (lv' := [(0, .int (((p0 - ((ushr p0 (1 : Int32)) &&& (1431655765 : Int32))) &&& (858993459 : Int32)) + ((ushr (p0 - ((ushr p0 (1 : Int32)) &&& (1431655765 : Int32))) (2 : Int32)) &&& (858993459 : Int32))))]) dJ6_bitCount_0f7a4_23 (by decide) rfl ?_
  refine g_iload_n C 0 dJ6_bitCount_0f7a4_24 rfl ?_
  refine g_iload_n C 0 dJ6_bitCount_0f7a4_25 rfl ?_
  refine g_iconst C (v := 4) dJ6_bitCount_0f7a4_26 rfl ?_
  refine g_iushr C dJ6_bitCount_0f7a4_27 ?_
  refine g_iadd C dJ6_bitCount_0f7a4_28 ?_
  refine g_ldcw C wco_493 dJ6_bitCount_0f7a4_29 ?_
  refine g_iand C dJ6_bitCount_0f7a4_32 ?_
  refine g_istore_n C (lv' := [(0, .int (((((p0 - ((ushr p0 (1 : Int32)) &&& (1431655765 : Int32))) &&& (858993459 : Int32)) + ((ushr (p0 - ((ushr p0 (1 : Int32)) &&& (1431655765 : Int32))) (2 : Int32)) &&& (858993459 : Int32))) + (ushr (((p0 - ((ushr p0 (1 : Int32)) &&& (1431655765 : Int32))) &&& (858993459 : Int32)) + ((ushr (p0 - ((ushr p0 (1 : Int32)) &&& (1431655765 : Int32))) (2 : Int32)) &&& (858993459 : Int32))) (4 : Int32))) &&& (252645135 : Int32)))]) dJ6_bitCount_0f7a4_33 (by decide) rfl ?_
  refine g_iload_n C 0 dJ6_bitCount_0f7a4_34 rfl ?_
  refine g_iload_n C 0 dJ6_bitCount_0f7a4_35 rfl ?_
  refine g_bipush C (v := 8) dJ6_bitCount_0f7a4_36 rfl ?_
  refine g_iushr C dJ6_bitCount_0f7a4_38 ?_
  refine g_iadd C dJ6_bitCount_0f7a4_39 ?_
  refine g_istore_n C (lv' := [(0, .int ((((((p0 - ((ushr p0 (1 : Int32)) &&& (1431655765 : Int32))) &&& (858993459 : Int32)) + ((ushr (p0 - ((ushr p0 (1 : Int32)) &&& (1431655765 : Int32))) (2 : Int32)) &&& (858993459 : Int32))) + (ushr (((p0 - ((ushr p0 (1 : Int32)) &&& (1431655765 : Int32))) &&& (858993459 : Int32)) + ((ushr (p0 - ((ushr p0 (1 : Int32)) &&& (1431655765 : Int32))) (2 : Int32)) &&& (858993459 : Int32))) (4 : Int32))) &&& (252645135 : Int32)) + (ushr (((((p0 - ((ushr p0 (1 : Int32)) &&& (1431655765 : Int32))) &&& (858993459 : Int32)) + ((ushr (p0 - ((ushr p0 (1 : Int32)) &&& (1431655765 : Int32))) (2 : Int32)) &&& (858993459 : Int32))) + (ushr (((p0 - ((ushr p0 (1 : Int32)) &&& (1431655765 : Int32))) &&& (858993459 : Int32)) + ((ushr (p0 - ((ushr p0 (1 : Int32)) &&& (1431655765 : Int32))) (2 : Int32)) &&& (858993459 : Int32))) (4 : Int32))) &&& (252645135 : Int32)) (8 : Int32))))]) dJ6_bitCount_0f7a4_40 (by decide) rfl ?_
  refine g_iload_n C 0 dJ6_bitCount_0f7a4_41 rfl ?_
  refine g_iload_n C 0 dJ6_bitCount_0f7a4_42 rfl ?_
  refine g_bipush C (v := 16) dJ6_bitCount_0f7a4_43 rfl ?_
  refine g_iushr C dJ6_bitCount_0f7a4_45 ?_
  refine g_iadd C dJ6_bitCount_0f7a4_46 ?_
  refine g_istore_n C (lv' := [(0, .int (((((((p0 - ((ushr p0 (1 : Int32)) &&& (1431655765 : Int32))) &&& (858993459 : Int32)) + ((ushr (p0 - ((ushr p0 (1 : Int32)) &&& (1431655765 : Int32))) (2 : Int32)) &&& (858993459 : Int32))) + (ushr (((p0 - ((ushr p0 (1 : Int32)) &&& (1431655765 : Int32))) &&& (858993459 : Int32)) + ((ushr (p0 - ((ushr p0 (1 : Int32)) &&& (1431655765 : Int32))) (2 : Int32)) &&& (858993459 : Int32))) (4 : Int32))) &&& (252645135 : Int32)) + (ushr (((((p0 - ((ushr p0 (1 : Int32)) &&& (1431655765 : Int32))) &&& (858993459 : Int32)) + ((ushr (p0 - ((ushr p0 (1 : Int32)) &&& (1431655765 : Int32))) (2 : Int32)) &&& (858993459 : Int32))) + (ushr (((p0 - ((ushr p0 (1 : Int32)) &&& (1431655765 : Int32))) &&& (858993459 : Int32)) + ((ushr (p0 - ((ushr p0 (1 : Int32)) &&& (1431655765 : Int32))) (2 : Int32)) &&& (858993459 : Int32))) (4 : Int32))) &&& (252645135 : Int32)) (8 : Int32))) + (ushr ((((((p0 - ((ushr p0 (1 : Int32)) &&& (1431655765 : Int32))) &&& (858993459 : Int32)) + ((ushr (p0 - ((ushr p0 (1 : Int32)) &&& (1431655765 : Int32))) (2 : Int32)) &&& (858993459 : Int32))) + (ushr (((p0 - ((ushr p0 (1 : Int32)) &&& (1431655765 : Int32))) &&& (858993459 : Int32)) + ((ushr (p0 - ((ushr p0 (1 : Int32)) &&& (1431655765 : Int32))) (2 : Int32)) &&& (858993459 : Int32))) (4 : Int32))) &&& (252645135 : Int32)) + (ushr (((((p0 - ((ushr p0 (1 : Int32)) &&& (1431655765 : Int32))) &&& (858993459 : Int32)) + ((ushr (p0 - ((ushr p0 (1 : Int32)) &&& (1431655765 : Int32))) (2 : Int32)) &&& (858993459 : Int32))) + (ushr (((p0 - ((ushr p0 (1 : Int32)) &&& (1431655765 : Int32))) &&& (858993459 : Int32)) + ((ushr (p0 - ((ushr p0 (1 : Int32)) &&& (1431655765 : Int32))) (2 : Int32)) &&& (858993459 : Int32))) (4 : Int32))) &&& (252645135 : Int32)) (8 : Int32))) (16 : Int32))))]) dJ6_bitCount_0f7a4_47 (by decide) rfl ?_
  refine g_iload_n C 0 dJ6_bitCount_0f7a4_48 rfl ?_
  refine g_bipush C (v := 63) dJ6_bitCount_0f7a4_49 rfl ?_
  refine g_iand C dJ6_bitCount_0f7a4_51 ?_
  have e0 : r0 = (((((((p0 - ((ushr p0 (1 : Int32)) &&& (1431655765 : Int32))) &&& (858993459 : Int32)) + ((ushr (p0 - ((ushr p0 (1 : Int32)) &&& (1431655765 : Int32))) (2 : Int32)) &&& (858993459 : Int32))) + (ushr (((p0 - ((ushr p0 (1 : Int32)) &&& (1431655765 : Int32))) &&& (858993459 : Int32)) + ((ushr (p0 - ((ushr p0 (1 : Int32)) &&& (1431655765 : Int32))) (2 : Int32)) &&& (858993459 : Int32))) (4 : Int32))) &&& (252645135 : Int32)) + (ushr (((((p0 - ((ushr p0 (1 : Int32)) &&& (1431655765 : Int32))) &&& (858993459 : Int32)) + ((ushr (p0 - ((ushr p0 (1 : Int32)) &&& (1431655765 : Int32))) (2 : Int32)) &&& (858993459 : Int32))) + (ushr (((p0 - ((ushr p0 (1 : Int32)) &&& (1431655765 : Int32))) &&& (858993459 : Int32)) + ((ushr (p0 - ((ushr p0 (1 : Int32)) &&& (1431655765 : Int32))) (2 : Int32)) &&& (858993459 : Int32))) (4 : Int32))) &&& (252645135 : Int32)) (8 : Int32))) + (ushr ((((((p0 - ((ushr p0 (1 : Int32)) &&& (1431655765 : Int32))) &&& (858993459 : Int32)) + ((ushr (p0 - ((ushr p0 (1 : Int32)) &&& (1431655765 : Int32))) (2 : Int32)) &&& (858993459 : Int32))) + (ushr (((p0 - ((ushr p0 (1 : Int32)) &&& (1431655765 : Int32))) &&& (858993459 : Int32)) + ((ushr (p0 - ((ushr p0 (1 : Int32)) &&& (1431655765 : Int32))) (2 : Int32)) &&& (858993459 : Int32))) (4 : Int32))) &&& (252645135 : Int32)) + (ushr (((((p0 - ((ushr p0 (1 : Int32)) &&& (1431655765 : Int32))) &&& (858993459 : Int32)) + ((ushr (p0 - ((ushr p0 (1 : Int32)) &&& (1431655765 : Int32))) (2 : Int32)) &&& (858993459 : Int32))) + (ushr (((p0 - ((ushr p0 (1 : Int32)) &&& (1431655765 : Int32))) &&& (858993459 : Int32)) + ((ushr (p0 - ((ushr p0 (1 : Int32)) &&& (1431655765 : Int32))) (2 : Int32)) &&& (858993459 : Int32))) (4 : Int32))) &&& (252645135 : Int32)) (8 : Int32))) (16 : Int32))) &&& (63 : Int32) := (Option.some.inj hf).symm
  exact g_iret C rfl hQ (by rw [e0]) rfl dJ6_bitCount_0f7a4_52
theorem c_J6_bitCount_0f7a4 (l : Launch) {Gw : gW} (hI : g_I Gw) {σ : sg} {p0 : Int32} {r : Int32}  (hf : f_J6_bitCount_0f7a4 σ p0 = some r) : gM l Gw yJ6_bitCount_0f7a4 cJ6_bitCount_0f7a4 1 (some .int) rm_J6_bitCount_0f7a4 [.int p0] σ (qI (Gw) r σ) := by
  refine g_met hI (by decide) (Nat.le_of_ble_eq_true rfl) (fun X h1 h2 C hQ => ?_)
  subst h1; subst h2
  exact w_J6_bitCount_0f7a4_e C  hQ hf
theorem dX7_stopCount_0 : decode cX7_stopCount 0 = .ok (.aload_n 0, 1) := by decide +kernel
theorem dX7_stopCount_1 : decode cX7_stopCount 1 = .ok (.getfield 16, 3) := by decide +kernel
theorem dX7_stopCount_4 : decode cX7_stopCount 4 = .ok (.iload_n 1, 1) := by decide +kernel
theorem dX7_stopCount_5 : decode cX7_stopCount 5 = .ok (.iaload, 1) := by decide +kernel
theorem dX7_stopCount_6 : decode cX7_stopCount 6 = .ok (.invokestatic 24, 3) := by decide +kernel
theorem dX7_stopCount_9 : decode cX7_stopCount 9 = .ok (.ireturn, 1) := by decide +kernel
abbrev rm_X7_stopCount : Room := { frames := 1, cells := 0, slots := 0, locals := 20 }
theorem w_X7_stopCount_e {X : gX} {σ : sg} {p1 : Int32} {r0 : Int32} (C : gC X cX7_stopCount 2 RX7 (some .int) rm_X7_stopCount)  (hQ : gQ X (qI (XG X) r0 σ)) (hf : f_X7_stopCount σ p1 = some r0) : G X 2 σ 0 [(0, .ref (Xd X 61)), (1, .int p1)] [] := by
  unfold f_X7_stopCount at hf
  refine g_aload_n C 0 dX7_stopCount_0 rfl ?_
  refine g_getr C 7 1 (71) (by decide) sh_61 rfl vc_7 (by decide) inXX7 wfl_108 dX7_stopCount_1 ?_
  refine g_iload_n C 1 dX7_stopCount_4 rfl ?_
  obtain ⟨v5, h1, hf⟩ := g_bind hf
  refine g_iald C h1 dX7_stopCount_5 ?_
  clear h1
  obtain ⟨v6, h1, hf⟩ := g_bind hf
  refine g_callSi C 1 [.int v5] (c_J6_bitCount_0f7a4 (Xl X) (gC_I C)  h1) ⟨wml_488, wst_489, win_13, wcd_490⟩ hd_J6_bitCount_0f7a4 ⟨rfl, rfl⟩ ⟨Nat.le_of_ble_eq_true rfl, Nat.le_of_ble_eq_true rfl⟩ rfl rfl (Nat.le_of_ble_eq_true rfl) dX7_stopCount_6 ?_
  clear h1
  have e0 : r0 = v6 := (Option.some.inj hf).symm
  exact g_iret C rfl hQ (by rw [e0]) rfl dX7_stopCount_9
theorem c_X7_stopCount (l : Launch) {Gw : gW} (hI : g_I Gw) {σ : sg} {p1 : Int32} {r : Int32}  (hf : f_X7_stopCount σ p1 = some r) : gM l Gw yX7_stopCount cX7_stopCount 2 (some .int) rm_X7_stopCount [.ref (Gw.2.2 61), .int p1] σ (qI (Gw) r σ) := by
  refine g_met hI (by decide) (Nat.le_of_ble_eq_true rfl) (fun X h1 h2 C hQ => ?_)
  subst h1; subst h2
  exact w_X7_stopCount_e C  hQ hf
theorem dX2_isPreferred_0 : decode cX2_isPreferred 0 = .ok (.aload_n 0, 1) := by decide +kernel
theorem dX2_isPreferred_1 : decode cX2_isPreferred 1 = .ok (.getfield 22, 3) := by decide +kernel
theorem dX2_isPreferred_4 : decode cX2_isPreferred 4 = .ok (.iload_n 1, 1) := by decide +kernel
theorem dX2_isPreferred_5 : decode cX2_isPreferred 5 = .ok (.invokevirtual 77, 3) := by decide +kernel
theorem dX2_isPreferred_8 : decode cX2_isPreferred 8 = .ok (.aload_n 0, 1) := by decide +kernel
theorem dX2_isPreferred_9 : decode cX2_isPreferred 9 = .ok (.getfield 22, 3) := by decide +kernel
theorem dX2_isPreferred_12 : decode cX2_isPreferred 12 = .ok (.iload_n 2, 1) := by decide +kernel
theorem dX2_isPreferred_13 : decode cX2_isPreferred 13 = .ok (.invokevirtual 77, 3) := by decide +kernel
theorem dX2_isPreferred_16 : decode cX2_isPreferred 16 = .ok (.isub, 1) := by decide +kernel
theorem dX2_isPreferred_17 : decode cX2_isPreferred 17 = .ok (.istore 4, 2) := by decide +kernel
theorem dX2_isPreferred_19 : decode cX2_isPreferred 19 = .ok (.iload_n 3, 1) := by decide +kernel
theorem dX2_isPreferred_20 : decode cX2_isPreferred 20 = .ok (.ifCond .le 16, 3) := by decide +kernel
theorem dX2_isPreferred_23 : decode cX2_isPreferred 23 = .ok (.iload 4, 2) := by decide +kernel
theorem dX2_isPreferred_25 : decode cX2_isPreferred 25 = .ok (.ifCond .ge 7, 3) := by decide +kernel
theorem dX2_isPreferred_28 : decode cX2_isPreferred 28 = .ok (.iconst 1, 1) := by decide +kernel
theorem dX2_isPreferred_29 : decode cX2_isPreferred 29 = .ok (.goto 17, 3) := by decide +kernel
theorem dX2_isPreferred_32 : decode cX2_isPreferred 32 = .ok (.iconst 0, 1) := by decide +kernel
theorem dX2_isPreferred_33 : decode cX2_isPreferred 33 = .ok (.goto 13, 3) := by decide +kernel
theorem dX2_isPreferred_36 : decode cX2_isPreferred 36 = .ok (.iload 4, 2) := by decide +kernel
theorem dX2_isPreferred_38 : decode cX2_isPreferred 38 = .ok (.ifCond .le 7, 3) := by decide +kernel
theorem dX2_isPreferred_41 : decode cX2_isPreferred 41 = .ok (.iconst 1, 1) := by decide +kernel
theorem dX2_isPreferred_42 : decode cX2_isPreferred 42 = .ok (.goto 4, 3) := by decide +kernel
theorem dX2_isPreferred_45 : decode cX2_isPreferred 45 = .ok (.iconst 0, 1) := by decide +kernel
theorem dX2_isPreferred_46 : decode cX2_isPreferred 46 = .ok (.ireturn, 1) := by decide +kernel
abbrev rm_X2_isPreferred : Room := { frames := 2, cells := 0, slots := 0, locals := 41 }
theorem w_X2_isPreferred_e {X : gX} {σ : sg} {p1 : Int32} {p2 : Int32} {p3 : Int32} {r0 : Int32} (C : gC X cX2_isPreferred 5 RX2 (some .boolean) rm_X2_isPreferred)  (hQ : gQ X (qI (XG X) r0 σ)) (hf : f_X2_isPreferred σ p1 p2 p3 = some r0) : G X 5 σ 0 [(0, .ref (Xd X 72)), (1, .int p1), (2, .int p2), (3, .int p3)] [] := by
  unfold f_X2_isPreferred at hf
  refine g_aload_n C 0 dX2_isPreferred_0 rfl ?_
  refine g_getr C 2 1 (61) (by decide) sh_72 rfl vc_2 (by decide) inXX2 wfl_127 dX2_isPreferred_1 ?_
  refine g_iload_n C 1 dX2_isPreferred_4 rfl ?_
  obtain ⟨v5, h1, hf⟩ := g_bind hf
  refine g_callVi C 1 [.int p1] (c_X7_stopCount (Xl X) (gC_I C)  h1) ⟨wml_484, wim_485, wse_486, win_5, wcd_487⟩ (by decide) sh_61 vc_7 rfl hd_X7_stopCount ⟨rfl, rfl⟩ ⟨Nat.le_of_ble_eq_true rfl, Nat.le_of_ble_eq_true rfl⟩ rfl rfl (Nat.le_of_ble_eq_true rfl) dX2_isPreferred_5 ?_
  clear h1
  refine g_aload_n C 0 dX2_isPreferred_8 rfl ?_
  refine g_getr C 2 1 (61) (by decide) sh_72 rfl vc_2 (by decide) inXX2 wfl_127 dX2_isPreferred_9 ?_
  refine g_iload_n C 2 dX2_isPreferred_12 rfl ?_
  obtain ⟨v13, h1, hf⟩ := g_bind hf
  refine g_callVi C 1 [.int p2] (c_X7_stopCount (Xl X) (gC_I C)  h1) ⟨wml_484, wim_485, wse_486, win_5, wcd_487⟩ (by decide) sh_61 vc_7 rfl hd_X7_stopCount ⟨rfl, rfl⟩ ⟨Nat.le_of_ble_eq_true rfl, Nat.le_of_ble_eq_true rfl⟩ rfl rfl (Nat.le_of_ble_eq_true rfl) dX2_isPreferred_13 ?_
  clear h1
  refine g_isub C dX2_isPreferred_16 ?_
  refine g_istore C (lv' := [(4, .int (v5 - v13)), (0, .ref (Xd X 72)), (1, .int p1), (2, .int p2), (3, .int p3)]) dX2_isPreferred_17 (by decide) rfl ?_
  refine g_iload_n C 4 dX2_isPreferred_19 rfl ?_
  refine g_if_le C 36 hf dX2_isPreferred_20 (by decide) (fun hf => ?_) (fun hf => ?_)
  · refine g_iload C 0 dX2_isPreferred_36 rfl ?_
    refine g_if_le C 45 hf dX2_isPreferred_38 (by decide) (fun hf => ?_) (fun hf => ?_)
    · refine g_iconst C (v := 0) dX2_isPreferred_45 rfl ?_
      have e0 : r0 = (0 : Int32) := (Option.some.inj hf).symm
      exact g_iret C rfl hQ (by rw [e0]) rfl dX2_isPreferred_46
    · refine g_iconst C (v := 1) dX2_isPreferred_41 rfl ?_
      refine g_goto C 46 dX2_isPreferred_42 (by decide) ?_
      have e0 : r0 = (1 : Int32) := (Option.some.inj hf).symm
      exact g_iret C rfl hQ (by rw [e0]) rfl dX2_isPreferred_46
  · refine g_iload C 0 dX2_isPreferred_23 rfl ?_
    refine g_if_ge C 32 hf dX2_isPreferred_25 (by decide) (fun hf => ?_) (fun hf => ?_)
    · refine g_iconst C (v := 0) dX2_isPreferred_32 rfl ?_
      refine g_goto C 46 dX2_isPreferred_33 (by decide) ?_
      have e0 : r0 = (0 : Int32) := (Option.some.inj hf).symm
      exact g_iret C rfl hQ (by rw [e0]) rfl dX2_isPreferred_46
    · refine g_iconst C (v := 1) dX2_isPreferred_28 rfl ?_
      refine g_goto C 46 dX2_isPreferred_29 (by decide) ?_
      have e0 : r0 = (1 : Int32) := (Option.some.inj hf).symm
      exact g_iret C rfl hQ (by rw [e0]) rfl dX2_isPreferred_46
theorem c_X2_isPreferred (l : Launch) {Gw : gW} (hI : g_I Gw) {σ : sg} {p1 : Int32} {p2 : Int32} {p3 : Int32} {r : Int32}  (hf : f_X2_isPreferred σ p1 p2 p3 = some r) : gM l Gw yX2_isPreferred cX2_isPreferred 5 (some .boolean) rm_X2_isPreferred [.ref (Gw.2.2 72), .int p1, .int p2, .int p3] σ (qI (Gw) r σ) := by
  refine g_met hI (by decide) (Nat.le_of_ble_eq_true rfl) (fun X h1 h2 C hQ => ?_)
  subst h1; subst h2
  exact w_X2_isPreferred_e C  hQ hf
theorem dX2_chosenTemplate_0 : decode cX2_chosenTemplate 0 = .ok (.iconst 0, 1) := by decide +kernel
theorem dX2_chosenTemplate_1 : decode cX2_chosenTemplate 1 = .ok (.istore_n 3, 1) := by decide +kernel
theorem dX2_chosenTemplate_2 : decode cX2_chosenTemplate 2 = .ok (.iconst (-1), 1) := by decide +kernel
theorem dX2_chosenTemplate_3 : decode cX2_chosenTemplate 3 = .ok (.istore 4, 2) := by decide +kernel
theorem dX2_chosenTemplate_5 : decode cX2_chosenTemplate 5 = .ok (.iconst 0, 1) := by decide +kernel
theorem dX2_chosenTemplate_6 : decode cX2_chosenTemplate 6 = .ok (.istore 5, 2) := by decide +kernel
theorem dX2_chosenTemplate_8 : decode cX2_chosenTemplate 8 = .ok (.iload 5, 2) := by decide +kernel
theorem dX2_chosenTemplate_10 : decode cX2_chosenTemplate 10 = .ok (.aload_n 0, 1) := by decide +kernel
theorem dX2_chosenTemplate_11 : decode cX2_chosenTemplate 11 = .ok (.getfield 22, 3) := by decide +kernel
theorem dX2_chosenTemplate_14 : decode cX2_chosenTemplate 14 = .ok (.getfield 66, 3) := by decide +kernel
theorem dX2_chosenTemplate_17 : decode cX2_chosenTemplate 17 = .ok (.if_icmp .ge 58, 3) := by decide +kernel
theorem dX2_chosenTemplate_20 : decode cX2_chosenTemplate 20 = .ok (.aload_n 0, 1) := by decide +kernel
theorem dX2_chosenTemplate_21 : decode cX2_chosenTemplate 21 = .ok (.iload 5, 2) := by decide +kernel
theorem dX2_chosenTemplate_23 : decode cX2_chosenTemplate 23 = .ok (.iload_n 1, 1) := by decide +kernel
theorem dX2_chosenTemplate_24 : decode cX2_chosenTemplate 24 = .ok (.iload_n 2, 1) := by decide +kernel
theorem dX2_chosenTemplate_25 : decode cX2_chosenTemplate 25 = .ok (.invokevirtual 69, 3) := by decide +kernel
theorem dX2_chosenTemplate_28 : decode cX2_chosenTemplate 28 = .ok (.aload_n 0, 1) := by decide +kernel
theorem dX2_chosenTemplate_29 : decode cX2_chosenTemplate 29 = .ok (.getfield 33, 3) := by decide +kernel
theorem dX2_chosenTemplate_32 : decode cX2_chosenTemplate 32 = .ok (.iload_n 1, 1) := by decide +kernel
theorem dX2_chosenTemplate_33 : decode cX2_chosenTemplate 33 = .ok (.isub, 1) := by decide +kernel
theorem dX2_chosenTemplate_34 : decode cX2_chosenTemplate 34 = .ok (.istore 6, 2) := by decide +kernel
theorem dX2_chosenTemplate_36 : decode cX2_chosenTemplate 36 = .ok (.iload 6, 2) := by decide +kernel
theorem dX2_chosenTemplate_38 : decode cX2_chosenTemplate 38 = .ok (.iload 4, 2) := by decide +kernel
theorem dX2_chosenTemplate_40 : decode cX2_chosenTemplate 40 = .ok (.if_icmp .gt 22, 3) := by decide +kernel
theorem dX2_chosenTemplate_43 : decode cX2_chosenTemplate 43 = .ok (.iload 6, 2) := by decide +kernel
theorem dX2_chosenTemplate_45 : decode cX2_chosenTemplate 45 = .ok (.iload 4, 2) := by decide +kernel
theorem dX2_chosenTemplate_47 : decode cX2_chosenTemplate 47 = .ok (.if_icmp .ne 22, 3) := by decide +kernel
theorem dX2_chosenTemplate_50 : decode cX2_chosenTemplate 50 = .ok (.aload_n 0, 1) := by decide +kernel
theorem dX2_chosenTemplate_51 : decode cX2_chosenTemplate 51 = .ok (.iload 5, 2) := by decide +kernel
theorem dX2_chosenTemplate_53 : decode cX2_chosenTemplate 53 = .ok (.iload_n 3, 1) := by decide +kernel
theorem dX2_chosenTemplate_54 : decode cX2_chosenTemplate 54 = .ok (.iload 6, 2) := by decide +kernel
theorem dX2_chosenTemplate_56 : decode cX2_chosenTemplate 56 = .ok (.invokevirtual 73, 3) := by decide +kernel
theorem dX2_chosenTemplate_59 : decode cX2_chosenTemplate 59 = .ok (.ifCond .eq 10, 3) := by decide +kernel
theorem dX2_chosenTemplate_62 : decode cX2_chosenTemplate 62 = .ok (.iload 5, 2) := by decide +kernel
theorem dX2_chosenTemplate_64 : decode cX2_chosenTemplate 64 = .ok (.istore_n 3, 1) := by decide +kernel
theorem dX2_chosenTemplate_65 : decode cX2_chosenTemplate 65 = .ok (.iload 6, 2) := by decide +kernel
theorem dX2_chosenTemplate_67 : decode cX2_chosenTemplate 67 = .ok (.istore 4, 2) := by decide +kernel
theorem dX2_chosenTemplate_69 : decode cX2_chosenTemplate 69 = .ok (.iinc 5 1, 3) := by decide +kernel
theorem dX2_chosenTemplate_72 : decode cX2_chosenTemplate 72 = .ok (.goto (-64), 3) := by decide +kernel
theorem dX2_chosenTemplate_75 : decode cX2_chosenTemplate 75 = .ok (.iload_n 3, 1) := by decide +kernel
theorem dX2_chosenTemplate_76 : decode cX2_chosenTemplate 76 = .ok (.ireturn, 1) := by decide +kernel
abbrev rm_X2_chosenTemplate : Room := { frames := 4, cells := 0, slots := 0, locals := 131 }
theorem w_X2_chosenTemplate_69 {X : gX} {p1 : Int32} {p2 : Int32} {x3 : Int32} {x4 : Int32} {x5 : Int32} {σ : sg} {r0 : (Int32 × sg)} {r1 : ((Int32 × Int32 × Int32 × sg) ⊕ (Int32 × sg))} (C : gC X cX2_chosenTemplate 7 RX2 (some .int) rm_X2_chosenTemplate)  (hQ : gQ X (qI (XG X) r0.1 r0.2)) (A1 : ∀ b, r1 = .inl b → G X 7 b.2.2.2 8 [(0, .ref (Xd X 72)), (1, .int p1), (2, .int p2), (3, .int b.1), (4, .int b.2.1), (5, .int b.2.2.1)] []) (B1 : ∀ b, r1 = .inr b → b = r0) (hf : J_X2_chosenTemplate_69 p1 p2 x3 x4 x5 σ = some r1) : G X 7 σ 69 [(0, .ref (Xd X 72)), (1, .int p1), (2, .int p2), (3, .int x3), (4, .int x4), (5, .int x5)] [] := by
  unfold J_X2_chosenTemplate_69 at hf
  refine g_iinc C (v := x5 + (1 : Int32)) (lv' := [(5, .int (x5 + (1 : Int32))), (0, .ref (Xd X 72)), (1, .int p1), (2, .int p2), (3, .int x3), (4, .int x4)]) 5 dX2_chosenTemplate_69 rfl rfl (by decide) rfl ?_
  refine g_goto C 8 dX2_chosenTemplate_72 (by decide) ?_
  refine g_sub [1, 2, 3, 4, 5, 0] rfl ?_
  exact A1 (x3, x4, x5 + (1 : Int32), σ) (Option.some.inj hf).symm
theorem w_X2_chosenTemplate_62 {X : gX} {p1 : Int32} {p2 : Int32} {x5 : Int32} {x6 : Int32} {σ : sg} {r0 : (Int32 × sg)} {r1 : ((Int32 × Int32 × Int32 × sg) ⊕ (Int32 × sg))} (C : gC X cX2_chosenTemplate 7 RX2 (some .int) rm_X2_chosenTemplate)  (hQ : gQ X (qI (XG X) r0.1 r0.2)) (A1 : ∀ b, r1 = .inl b → G X 7 b.2.2.2 8 [(0, .ref (Xd X 72)), (1, .int p1), (2, .int p2), (3, .int b.1), (4, .int b.2.1), (5, .int b.2.2.1)] []) (B1 : ∀ b, r1 = .inr b → b = r0) (hf : J_X2_chosenTemplate_62 p1 p2 x5 x6 σ = some r1) : G X 7 σ 62 [(0, .ref (Xd X 72)), (1, .int p1), (2, .int p2), (5, .int x5), (6, .int x6)] [] := by
  unfold J_X2_chosenTemplate_62 at hf
  refine g_iload C 3 dX2_chosenTemplate_62 rfl ?_
  refine g_istore_n C (lv' := [(3, .int x5), (0, .ref (Xd X 72)), (1, .int p1), (2, .int p2), (5, .int x5), (6, .int x6)]) dX2_chosenTemplate_64 (by decide) rfl ?_
  refine g_iload C 5 dX2_chosenTemplate_65 rfl ?_
  refine g_istore C (lv' := [(4, .int x6), (3, .int x5), (0, .ref (Xd X 72)), (1, .int p1), (2, .int p2), (5, .int x5), (6, .int x6)]) dX2_chosenTemplate_67 (by decide) rfl ?_
  refine g_sub [2, 3, 4, 1, 0, 5] rfl ?_
  exact w_X2_chosenTemplate_69 C  hQ A1 B1 hf
theorem w_X2_chosenTemplate_8 {X : gX} {p1 : Int32} {p2 : Int32} {x3 : Int32} {x4 : Int32} {x5 : Int32} {σ : sg} {r0 : (Int32 × sg)} {r1 : ((Int32 × Int32 × Int32 × sg) ⊕ (Int32 × sg))} (C : gC X cX2_chosenTemplate 7 RX2 (some .int) rm_X2_chosenTemplate)  (hQ : gQ X (qI (XG X) r0.1 r0.2)) (A1 : ∀ b, r1 = .inl b → G X 7 b.2.2.2 8 [(0, .ref (Xd X 72)), (1, .int p1), (2, .int p2), (3, .int b.1), (4, .int b.2.1), (5, .int b.2.2.1)] []) (B1 : ∀ b, r1 = .inr b → b = r0) (hf : B_X2_chosenTemplate_8 p1 p2 x3 x4 x5 σ = some r1) : G X 7 σ 8 [(0, .ref (Xd X 72)), (1, .int p1), (2, .int p2), (3, .int x3), (4, .int x4), (5, .int x5)] [] := by
  unfold B_X2_chosenTemplate_8 at hf
  refine g_iload C 5 dX2_chosenTemplate_8 rfl ?_
  refine g_aload_n C 0 dX2_chosenTemplate_10 rfl ?_
  refine g_getr C 2 1 (61) (by decide) sh_72 rfl vc_2 (by decide) inXX2 wfl_127 dX2_chosenTemplate_11 ?_
  refine g_getiN C 7 2 (by decide) sh_61 rfl vc_7 (by decide) inXX7 wfn_111 dX2_chosenTemplate_14 ?_
  refine g_icmp_ge C 75 hf dX2_chosenTemplate_17 (by decide) (fun hf => ?_) (fun hf => ?_)
  · refine g_iload_n C 3 dX2_chosenTemplate_75 rfl ?_
    have e0 : r0 = (x3, σ) := (B1 _ (Option.some.inj hf).symm).symm
    exact g_iret C rfl hQ (by rw [e0]) rfl dX2_chosenTemplate_76
  · refine g_aload_n C 0 dX2_chosenTemplate_20 rfl ?_
    refine g_iload C 5 dX2_chosenTemplate_21 rfl ?_
    refine g_iload_n C 1 dX2_chosenTemplate_23 rfl ?_
    refine g_iload_n C 2 dX2_chosenTemplate_24 rfl ?_
    obtain ⟨s25, h1, hf⟩ := g_bind hf
    refine g_callVv C 3 [.int x5, .int p1, .int p2] (c_X2_fill (Xl X) (gC_I C)  h1) ⟨wml_463, wim_464, wse_465, win_6, wcd_466⟩ (by decide) sh_72 vc_2 rfl hd_X2_fill ⟨rfl, rfl⟩ ⟨Nat.le_of_ble_eq_true rfl, Nat.le_of_ble_eq_true rfl⟩ rfl rfl (Nat.le_of_ble_eq_true rfl) dX2_chosenTemplate_25 ?_
    clear h1
    refine g_aload_n C 0 dX2_chosenTemplate_28 rfl ?_
    refine g_geti C 2 6 (by decide) sh_72 rfl vc_2 (by decide) inXX2 wfl_138 dX2_chosenTemplate_29 ?_
    refine g_iload_n C 1 dX2_chosenTemplate_32 rfl ?_
    refine g_isub C dX2_chosenTemplate_33 ?_
    refine g_istore C (lv' := [(6, .int ((s25 72 6) - p1)), (0, .ref (Xd X 72)), (1, .int p1), (2, .int p2), (3, .int x3), (4, .int x4), (5, .int x5)]) dX2_chosenTemplate_34 (by decide) rfl ?_
    refine g_iload C 0 dX2_chosenTemplate_36 rfl ?_
    refine g_iload C 5 dX2_chosenTemplate_38 rfl ?_
    refine g_icmp_gt C 62 hf dX2_chosenTemplate_40 (by decide) (fun hf => ?_) (fun hf => ?_)
    · refine g_sub [1, 2, 3, 6, 0] rfl ?_
      exact w_X2_chosenTemplate_62 C  hQ A1 B1 hf
    · refine g_iload C 0 dX2_chosenTemplate_43 rfl ?_
      refine g_iload C 5 dX2_chosenTemplate_45 rfl ?_
      refine g_icmp_ne C 69 hf dX2_chosenTemplate_47 (by decide) (fun hf => ?_) (fun hf => ?_)
      · refine g_aload_n C 1 dX2_chosenTemplate_50 rfl ?_
        refine g_iload C 6 dX2_chosenTemplate_51 rfl ?_
        refine g_iload_n C 4 dX2_chosenTemplate_53 rfl ?_
        refine g_iload C 0 dX2_chosenTemplate_54 rfl ?_
        obtain ⟨v56, h1, hf⟩ := g_bind hf
        refine g_callVi C 3 [.int x5, .int x3, .int ((s25 72 6) - p1)] (c_X2_isPreferred (Xl X) (gC_I C)  h1) ⟨wml_480, wim_482, wsp_3, win_6, wcd_483⟩ (by decide) sh_72 vc_2 rfl hd_X2_isPreferred ⟨rfl, rfl⟩ ⟨Nat.le_of_ble_eq_true rfl, Nat.le_of_ble_eq_true rfl⟩ rfl rfl (Nat.le_of_ble_eq_true rfl) dX2_chosenTemplate_56 ?_
        clear h1
        refine g_if_eq C 69 hf dX2_chosenTemplate_59 (by decide) (fun hf => ?_) (fun hf => ?_)
        · refine g_sub [1, 2, 3, 4, 5, 6] rfl ?_
          exact w_X2_chosenTemplate_69 C  hQ A1 B1 hf
        · refine g_sub [1, 2, 3, 6, 0] rfl ?_
          exact w_X2_chosenTemplate_62 C  hQ A1 B1 hf
      · refine g_sub [1, 2, 3, 4, 5, 6] rfl ?_
        exact w_X2_chosenTemplate_69 C  hQ A1 B1 hf
theorem wl_X2_chosenTemplate_8 {X : gX} {p1 : Int32} {p2 : Int32} {r0 : (Int32 × sg)} (C : gC X cX2_chosenTemplate 7 RX2 (some .int) rm_X2_chosenTemplate)  (hQ : gQ X (qI (XG X) r0.1 r0.2))  {n : Nat} {a : (Int32 × Int32 × Int32 × sg)} (hf : L_X2_chosenTemplate_8 p1 p2 n a = some r0) : G X 7 a.2.2.2 8 [(0, .ref (Xd X 72)), (1, .int p1), (2, .int p2), (3, .int a.1), (4, .int a.2.1), (5, .int a.2.2.1)] [] := by
  unfold L_X2_chosenTemplate_8 at hf
  have key := g_loop_ind (res := r0) (f := fun a => B_X2_chosenTemplate_8 p1 p2 a.1 a.2.1 a.2.2.1 a.2.2.2) (P := fun a => G X 7 a.2.2.2 8 [(0, .ref (Xd X 72)), (1, .int p1), (2, .int p2), (3, .int a.1), (4, .int a.2.1), (5, .int a.2.2.1)] []) (fun a r1 h1 k1 k2 => w_X2_chosenTemplate_8 (x3 := a.1) (x4 := a.2.1) (x5 := a.2.2.1) (σ := a.2.2.2) C  hQ  k1 k2 h1)
  exact key n a hf
theorem w_X2_chosenTemplate_e {X : gX} {σ : sg} {p1 : Int32} {p2 : Int32} {r0 : (Int32 × sg)} (C : gC X cX2_chosenTemplate 7 RX2 (some .int) rm_X2_chosenTemplate)  (hQ : gQ X (qI (XG X) r0.1 r0.2)) (hf : f_X2_chosenTemplate σ p1 p2 = some r0) : G X 7 σ 0 [(0, .ref (Xd X 72)), (1, .int p1), (2, .int p2)] [] := by
  unfold f_X2_chosenTemplate at hf
  refine g_iconst C (v := 0) dX2_chosenTemplate_0 rfl ?_
  refine g_istore_n C (lv' := [(3, .int (0 : Int32)), (0, .ref (Xd X 72)), (1, .int p1), (2, .int p2)]) dX2_chosenTemplate_1 (by decide) rfl ?_
  refine g_iconst C (v := (-1)) dX2_chosenTemplate_2 rfl ?_
  refine g_istore C (lv' := [(4, .int (-1 : Int32)), (3, .int (0 : Int32)), (0, .ref (Xd X 72)), (1, .int p1), (2, .int p2)]) dX2_chosenTemplate_3 (by decide) rfl ?_
  refine g_iconst C (v := 0) dX2_chosenTemplate_5 rfl ?_
  refine g_istore C (lv' := [(5, .int (0 : Int32)), (4, .int (-1 : Int32)), (3, .int (0 : Int32)), (0, .ref (Xd X 72)), (1, .int p1), (2, .int p2)]) dX2_chosenTemplate_6 (by decide) rfl ?_
  refine g_sub [3, 4, 5, 2, 1, 0] rfl ?_
  exact wl_X2_chosenTemplate_8 (a := ((0 : Int32), (-1 : Int32), (0 : Int32), σ)) C  hQ  hf
theorem c_X2_chosenTemplate (l : Launch) {Gw : gW} (hI : g_I Gw) {σ : sg} {p1 : Int32} {p2 : Int32} {r : (Int32 × sg)}  (hf : f_X2_chosenTemplate σ p1 p2 = some r) : gM l Gw yX2_chosenTemplate cX2_chosenTemplate 7 (some .int) rm_X2_chosenTemplate [.ref (Gw.2.2 72), .int p1, .int p2] σ (qI (Gw) r.1 r.2) := by
  refine g_met hI (by decide) (Nat.le_of_ble_eq_true rfl) (fun X h1 h2 C hQ => ?_)
  subst h1; subst h2
  exact w_X2_chosenTemplate_e C  hQ hf
theorem dX3_remember_0 : decode cX3_remember 0 = .ok (.aload_n 0, 1) := by decide +kernel
theorem dX3_remember_1 : decode cX3_remember 1 = .ok (.getfield 9, 3) := by decide +kernel
theorem dX3_remember_4 : decode cX3_remember 4 = .ok (.aload_n 0, 1) := by decide +kernel
theorem dX3_remember_5 : decode cX3_remember 5 = .ok (.getfield 23, 3) := by decide +kernel
theorem dX3_remember_8 : decode cX3_remember 8 = .ok (.aload_n 1, 1) := by decide +kernel
theorem dX3_remember_9 : decode cX3_remember 9 = .ok (.getfield 27, 3) := by decide +kernel
theorem dX3_remember_12 : decode cX3_remember 12 = .ok (.iastore, 1) := by decide +kernel
theorem dX3_remember_13 : decode cX3_remember 13 = .ok (.aload_n 0, 1) := by decide +kernel
theorem dX3_remember_14 : decode cX3_remember 14 = .ok (.getfield 15, 3) := by decide +kernel
theorem dX3_remember_17 : decode cX3_remember 17 = .ok (.aload_n 0, 1) := by decide +kernel
theorem dX3_remember_18 : decode cX3_remember 18 = .ok (.getfield 23, 3) := by decide +kernel
theorem dX3_remember_21 : decode cX3_remember 21 = .ok (.iload_n 2, 1) := by decide +kernel
theorem dX3_remember_22 : decode cX3_remember 22 = .ok (.iastore, 1) := by decide +kernel
theorem dX3_remember_23 : decode cX3_remember 23 = .ok (.aload_n 1, 1) := by decide +kernel
theorem dX3_remember_24 : decode cX3_remember 24 = .ok (.getfield 32, 3) := by decide +kernel
theorem dX3_remember_27 : decode cX3_remember 27 = .ok (.iload_n 2, 1) := by decide +kernel
theorem dX3_remember_28 : decode cX3_remember 28 = .ok (.aaload, 1) := by decide +kernel
theorem dX3_remember_29 : decode cX3_remember 29 = .ok (.iconst 0, 1) := by decide +kernel
theorem dX3_remember_30 : decode cX3_remember 30 = .ok (.aload_n 0, 1) := by decide +kernel
theorem dX3_remember_31 : decode cX3_remember 31 = .ok (.getfield 20, 3) := by decide +kernel
theorem dX3_remember_34 : decode cX3_remember 34 = .ok (.aload_n 0, 1) := by decide +kernel
theorem dX3_remember_35 : decode cX3_remember 35 = .ok (.getfield 23, 3) := by decide +kernel
theorem dX3_remember_38 : decode cX3_remember 38 = .ok (.aaload, 1) := by decide +kernel
theorem dX3_remember_39 : decode cX3_remember 39 = .ok (.iconst 0, 1) := by decide +kernel
theorem dX3_remember_40 : decode cX3_remember 40 = .ok (.iconst 4, 1) := by decide +kernel
theorem dX3_remember_41 : decode cX3_remember 41 = .ok (.invokestatic 33, 3) := by decide +kernel
theorem dX3_remember_44 : decode cX3_remember 44 = .ok (.aload_n 0, 1) := by decide +kernel
theorem dX3_remember_45 : decode cX3_remember 45 = .ok (.aload_n 0, 1) := by decide +kernel
theorem dX3_remember_46 : decode cX3_remember 46 = .ok (.getfield 23, 3) := by decide +kernel
theorem dX3_remember_49 : decode cX3_remember 49 = .ok (.iconst 1, 1) := by decide +kernel
theorem dX3_remember_50 : decode cX3_remember 50 = .ok (.iadd, 1) := by decide +kernel
theorem dX3_remember_51 : decode cX3_remember 51 = .ok (.bipush 10, 2) := by decide +kernel
theorem dX3_remember_53 : decode cX3_remember 53 = .ok (.irem, 1) := by decide +kernel
theorem dX3_remember_54 : decode cX3_remember 54 = .ok (.putfield 23, 3) := by decide +kernel
theorem dX3_remember_57 : decode cX3_remember 57 = .ok (.aload_n 0, 1) := by decide +kernel
theorem dX3_remember_58 : decode cX3_remember 58 = .ok (.aload_n 0, 1) := by decide +kernel
theorem dX3_remember_59 : decode cX3_remember 59 = .ok (.getfield 39, 3) := by decide +kernel
theorem dX3_remember_62 : decode cX3_remember 62 = .ok (.iconst 1, 1) := by decide +kernel
theorem dX3_remember_63 : decode cX3_remember 63 = .ok (.iadd, 1) := by decide +kernel
theorem dX3_remember_64 : decode cX3_remember 64 = .ok (.bipush 10, 2) := by decide +kernel
theorem dX3_remember_66 : decode cX3_remember 66 = .ok (.invokestatic 40, 3) := by decide +kernel
theorem dX3_remember_69 : decode cX3_remember 69 = .ok (.putfield 39, 3) := by decide +kernel
theorem dX3_remember_72 : decode cX3_remember 72 = .ok (.return_, 1) := by decide +kernel
abbrev rm_X3_remember : Room := { frames := 1, cells := 0, slots := 0, locals := 60 }
theorem w_X3_remember_e {X : gX} {σ : sg} {p2 : Int32} {r0 : sg} (C : gC X cX3_remember 3 RX3 none rm_X3_remember)  (hQ : gQ X (qV (XG X) r0)) (hf : f_X3_remember σ p2 = some r0) : G X 3 σ 0 [(0, .ref (Xd X 43)), (1, .ref (Xd X 1)), (2, .int p2)] [] := by
  unfold f_X3_remember at hf
  refine g_aload_n C 0 dX3_remember_0 rfl ?_
  refine g_getr C 3 0 (44) (by decide) sh_43 rfl vc_3 (by decide) inXX3 wfl_51 dX3_remember_1 ?_
  refine g_aload_n C 0 dX3_remember_4 rfl ?_
  refine g_geti C 3 3 (by decide) sh_43 rfl vc_3 (by decide) inXX3 wfl_54 dX3_remember_5 ?_
  refine g_aload_n C 1 dX3_remember_8 rfl ?_
  refine g_getiN C 6 1 (by decide) sh_1 rfl vc_6 (by decide) inXX6 wfn_34 dX3_remember_9 ?_
  obtain ⟨s12, h1, hf⟩ := g_bind hf
  refine g_iast C h1 dX3_remember_12 ?_
  clear h1
  refine g_aload_n C 0 dX3_remember_13 rfl ?_
  refine g_getr C 3 1 (45) (by decide) sh_43 rfl vc_3 (by decide) inXX3 wfl_52 dX3_remember_14 ?_
  refine g_aload_n C 0 dX3_remember_17 rfl ?_
  refine g_geti C 3 3 (by decide) sh_43 rfl vc_3 (by decide) inXX3 wfl_54 dX3_remember_18 ?_
  refine g_iload_n C 2 dX3_remember_21 rfl ?_
  obtain ⟨s22, h1, hf⟩ := g_bind hf
  refine g_iast C h1 dX3_remember_22 ?_
  clear h1
  refine g_aload_n C 1 dX3_remember_23 rfl ?_
  refine g_getrN C 6 0 (2) (by decide) sh_1 rfl vc_6 (by decide) inXX6 wfn_31 dX3_remember_24 ?_
  refine g_iload_n C 2 dX3_remember_27 rfl ?_
  obtain ⟨q28, h1, hf⟩ := g_bind hf
  refine g_aald C h1 dX3_remember_28 ?_
  clear h1
  refine g_iconst C (v := 0) dX3_remember_29 rfl ?_
  refine g_aload_n C 0 dX3_remember_30 rfl ?_
  refine g_getr C 3 2 (46) (by decide) sh_43 rfl vc_3 (by decide) inXX3 wfl_53 dX3_remember_31 ?_
  refine g_aload_n C 0 dX3_remember_34 rfl ?_
  refine g_geti C 3 3 (by decide) sh_43 rfl vc_3 (by decide) inXX3 wfl_54 dX3_remember_35 ?_
  obtain ⟨q38, h1, hf⟩ := g_bind hf
  refine g_aald C h1 dX3_remember_38 ?_
  clear h1
  refine g_iconst C (v := 0) dX3_remember_39 rfl ?_
  refine g_iconst C (v := 4) dX3_remember_40 rfl ?_
  obtain ⟨s41, h1, hf⟩ := g_bind hf
  refine g_copy C h1 wml_310 wnt_312 wst_311 win_11 (Nat.le_of_ble_eq_true rfl) (Nat.le_of_ble_eq_true rfl) dX3_remember_41 ?_
  clear h1
  refine g_aload_n C 0 dX3_remember_44 rfl ?_
  refine g_aload_n C 0 dX3_remember_45 rfl ?_
  refine g_geti C 3 3 (by decide) sh_43 rfl vc_3 (by decide) inXX3 wfl_54 dX3_remember_46 ?_
  refine g_iconst C (v := 1) dX3_remember_49 rfl ?_
  refine g_iadd C dX3_remember_50 ?_
  refine g_bipush C (v := 10) dX3_remember_51 rfl ?_
  refine g_irem C dX3_remember_53 (by decide) ?_
  obtain ⟨s54, h1, hf⟩ := g_bind hf
  refine g_put C 3 3 (by decide) sh_43 rfl (by decide) vc_3 (by decide) tyX3 tyX3_ok nmX3 inXX3 wfl_54 rfl (ty := .int) (by decide +kernel) rfl rfl dX3_remember_54 ?_
  rw [Option.some.inj h1]
  clear h1
  refine g_aload_n C 0 dX3_remember_57 rfl ?_
  refine g_aload_n C 0 dX3_remember_58 rfl ?_
  refine g_geti C 3 4 (by decide) sh_43 rfl vc_3 (by decide) inXX3 wfl_55 dX3_remember_59 ?_
  refine g_iconst C (v := 1) dX3_remember_62 rfl ?_
  refine g_iadd C dX3_remember_63 ?_
  refine g_bipush C (v := 10) dX3_remember_64 rfl ?_
  refine g_min C wml_313 wst_314 win_12 wcd_315 (Nat.le_of_ble_eq_true rfl) (Nat.le_of_ble_eq_true rfl) dX3_remember_66 ?_
  obtain ⟨s69, h1, hf⟩ := g_bind hf
  refine g_put C 3 4 (by decide) sh_43 rfl (by decide) vc_3 (by decide) tyX3 tyX3_ok nmX3 inXX3 wfl_55 rfl (ty := .int) (by decide +kernel) rfl rfl dX3_remember_69 ?_
  rw [Option.some.inj h1]
  clear h1
  have e0 : r0 = s69 := (Option.some.inj hf).symm
  exact g_vret C rfl hQ (by rw [e0]) dX3_remember_72
theorem c_X3_remember (l : Launch) {Gw : gW} (hI : g_I Gw) {σ : sg} {p2 : Int32} {r : sg}  (hf : f_X3_remember σ p2 = some r) : gM l Gw yX3_remember cX3_remember 3 none rm_X3_remember [.ref (Gw.2.2 43), .ref (Gw.2.2 1), .int p2] σ (qV (Gw) r) := by
  refine g_met hI (by decide) (Nat.le_of_ble_eq_true rfl) (fun X h1 h2 C hQ => ?_)
  subst h1; subst h2
  exact w_X3_remember_e C  hQ hf
theorem dX3_takeBack_0 : decode cX3_takeBack 0 = .ok (.aload_n 0, 1) := by decide +kernel
theorem dX3_takeBack_1 : decode cX3_takeBack 1 = .ok (.aload_n 0, 1) := by decide +kernel
theorem dX3_takeBack_2 : decode cX3_takeBack 2 = .ok (.getfield 23, 3) := by decide +kernel
theorem dX3_takeBack_5 : decode cX3_takeBack 5 = .ok (.bipush 10, 2) := by decide +kernel
theorem dX3_takeBack_7 : decode cX3_takeBack 7 = .ok (.iadd, 1) := by decide +kernel
theorem dX3_takeBack_8 : decode cX3_takeBack 8 = .ok (.iconst 1, 1) := by decide +kernel
theorem dX3_takeBack_9 : decode cX3_takeBack 9 = .ok (.isub, 1) := by decide +kernel
theorem dX3_takeBack_10 : decode cX3_takeBack 10 = .ok (.bipush 10, 2) := by decide +kernel
theorem dX3_takeBack_12 : decode cX3_takeBack 12 = .ok (.irem, 1) := by decide +kernel
theorem dX3_takeBack_13 : decode cX3_takeBack 13 = .ok (.putfield 23, 3) := by decide +kernel
theorem dX3_takeBack_16 : decode cX3_takeBack 16 = .ok (.aload_n 0, 1) := by decide +kernel
theorem dX3_takeBack_17 : decode cX3_takeBack 17 = .ok (.dup, 1) := by decide +kernel
theorem dX3_takeBack_18 : decode cX3_takeBack 18 = .ok (.getfield 39, 3) := by decide +kernel
theorem dX3_takeBack_21 : decode cX3_takeBack 21 = .ok (.iconst 1, 1) := by decide +kernel
theorem dX3_takeBack_22 : decode cX3_takeBack 22 = .ok (.isub, 1) := by decide +kernel
theorem dX3_takeBack_23 : decode cX3_takeBack 23 = .ok (.putfield 39, 3) := by decide +kernel
theorem dX3_takeBack_26 : decode cX3_takeBack 26 = .ok (.aload_n 0, 1) := by decide +kernel
theorem dX3_takeBack_27 : decode cX3_takeBack 27 = .ok (.getfield 20, 3) := by decide +kernel
theorem dX3_takeBack_30 : decode cX3_takeBack 30 = .ok (.aload_n 0, 1) := by decide +kernel
theorem dX3_takeBack_31 : decode cX3_takeBack 31 = .ok (.getfield 23, 3) := by decide +kernel
theorem dX3_takeBack_34 : decode cX3_takeBack 34 = .ok (.aaload, 1) := by decide +kernel
theorem dX3_takeBack_35 : decode cX3_takeBack 35 = .ok (.iconst 0, 1) := by decide +kernel
theorem dX3_takeBack_36 : decode cX3_takeBack 36 = .ok (.aload_n 1, 1) := by decide +kernel
theorem dX3_takeBack_37 : decode cX3_takeBack 37 = .ok (.getfield 32, 3) := by decide +kernel
theorem dX3_takeBack_40 : decode cX3_takeBack 40 = .ok (.aload_n 0, 1) := by decide +kernel
theorem dX3_takeBack_41 : decode cX3_takeBack 41 = .ok (.getfield 15, 3) := by decide +kernel
theorem dX3_takeBack_44 : decode cX3_takeBack 44 = .ok (.aload_n 0, 1) := by decide +kernel
theorem dX3_takeBack_45 : decode cX3_takeBack 45 = .ok (.getfield 23, 3) := by decide +kernel
theorem dX3_takeBack_48 : decode cX3_takeBack 48 = .ok (.iaload, 1) := by decide +kernel
theorem dX3_takeBack_49 : decode cX3_takeBack 49 = .ok (.aaload, 1) := by decide +kernel
theorem dX3_takeBack_50 : decode cX3_takeBack 50 = .ok (.iconst 0, 1) := by decide +kernel
theorem dX3_takeBack_51 : decode cX3_takeBack 51 = .ok (.iconst 4, 1) := by decide +kernel
theorem dX3_takeBack_52 : decode cX3_takeBack 52 = .ok (.invokestatic 33, 3) := by decide +kernel
theorem dX3_takeBack_55 : decode cX3_takeBack 55 = .ok (.aload_n 1, 1) := by decide +kernel
theorem dX3_takeBack_56 : decode cX3_takeBack 56 = .ok (.aload_n 0, 1) := by decide +kernel
theorem dX3_takeBack_57 : decode cX3_takeBack 57 = .ok (.getfield 9, 3) := by decide +kernel
theorem dX3_takeBack_60 : decode cX3_takeBack 60 = .ok (.aload_n 0, 1) := by decide +kernel
theorem dX3_takeBack_61 : decode cX3_takeBack 61 = .ok (.getfield 23, 3) := by decide +kernel
theorem dX3_takeBack_64 : decode cX3_takeBack 64 = .ok (.iaload, 1) := by decide +kernel
theorem dX3_takeBack_65 : decode cX3_takeBack 65 = .ok (.putfield 27, 3) := by decide +kernel
theorem dX3_takeBack_68 : decode cX3_takeBack 68 = .ok (.return_, 1) := by decide +kernel
abbrev rm_X3_takeBack : Room := { frames := 1, cells := 0, slots := 0, locals := 60 }
theorem w_X3_takeBack_e {X : gX} {σ : sg}  {r0 : sg} (C : gC X cX3_takeBack 2 RX3 none rm_X3_takeBack)  (hQ : gQ X (qV (XG X) r0)) (hf : f_X3_takeBack σ = some r0) : G X 2 σ 0 [(0, .ref (Xd X 43)), (1, .ref (Xd X 1))] [] := by
  unfold f_X3_takeBack at hf
  refine g_aload_n C 0 dX3_takeBack_0 rfl ?_
  refine g_aload_n C 0 dX3_takeBack_1 rfl ?_
  refine g_geti C 3 3 (by decide) sh_43 rfl vc_3 (by decide) inXX3 wfl_54 dX3_takeBack_2 ?_
  refine g_bipush C (v := 10) dX3_takeBack_5 rfl ?_
  refine g_iadd C dX3_takeBack_7 ?_
  refine g_iconst C (v := 1) dX3_takeBack_8 rfl ?_
  refine g_isub C dX3_takeBack_9 ?_
  refine g_bipush C (v := 10) dX3_takeBack_10 rfl ?_
  refine g_irem C dX3_takeBack_12 (by decide) ?_
  obtain ⟨s13, h1, hf⟩ := g_bind hf
  refine g_put C 3 3 (by decide) sh_43 rfl (by decide) vc_3 (by decide) tyX3 tyX3_ok nmX3 inXX3 wfl_54 rfl (ty := .int) (by decide +kernel) rfl rfl dX3_takeBack_13 ?_
  rw [Option.some.inj h1]
  clear h1
  refine g_aload_n C 0 dX3_takeBack_16 rfl ?_
  refine g_dup C dX3_takeBack_17 rfl ?_
  refine g_geti C 3 4 (by decide) sh_43 rfl vc_3 (by decide) inXX3 wfl_55 dX3_takeBack_18 ?_
  refine g_iconst C (v := 1) dX3_takeBack_21 rfl ?_
  refine g_isub C dX3_takeBack_22 ?_
  obtain ⟨s23, h1, hf⟩ := g_bind hf
  refine g_put C 3 4 (by decide) sh_43 rfl (by decide) vc_3 (by decide) tyX3 tyX3_ok nmX3 inXX3 wfl_55 rfl (ty := .int) (by decide +kernel) rfl rfl dX3_takeBack_23 ?_
  rw [Option.some.inj h1]
  clear h1
  refine g_aload_n C 0 dX3_takeBack_26 rfl ?_
  refine g_getr C 3 2 (46) (by decide) sh_43 rfl vc_3 (by decide) inXX3 wfl_53 dX3_takeBack_27 ?_
  refine g_aload_n C 0 dX3_takeBack_30 rfl ?_
  refine g_geti C 3 3 (by decide) sh_43 rfl vc_3 (by decide) inXX3 wfl_54 dX3_takeBack_31 ?_
  obtain ⟨q34, h1, hf⟩ := g_bind hf
  refine g_aald C h1 dX3_takeBack_34 ?_
  clear h1
  refine g_iconst C (v := 0) dX3_takeBack_35 rfl ?_
  refine g_aload_n C 1 dX3_takeBack_36 rfl ?_
  refine g_getrN C 6 0 (2) (by decide) sh_1 rfl vc_6 (by decide) inXX6 wfn_31 dX3_takeBack_37 ?_
  refine g_aload_n C 0 dX3_takeBack_40 rfl ?_
  refine g_getr C 3 1 (45) (by decide) sh_43 rfl vc_3 (by decide) inXX3 wfl_52 dX3_takeBack_41 ?_
  refine g_aload_n C 0 dX3_takeBack_44 rfl ?_
  refine g_geti C 3 3 (by decide) sh_43 rfl vc_3 (by decide) inXX3 wfl_54 dX3_takeBack_45 ?_
  obtain ⟨v48, h1, hf⟩ := g_bind hf
  refine g_iald C h1 dX3_takeBack_48 ?_
  clear h1
  obtain ⟨q49, h1, hf⟩ := g_bind hf
  refine g_aald C h1 dX3_takeBack_49 ?_
  clear h1
  refine g_iconst C (v := 0) dX3_takeBack_50 rfl ?_
  refine g_iconst C (v := 4) dX3_takeBack_51 rfl ?_
  obtain ⟨s52, h1, hf⟩ := g_bind hf
  refine g_copy C h1 wml_310 wnt_312 wst_311 win_11 (Nat.le_of_ble_eq_true rfl) (Nat.le_of_ble_eq_true rfl) dX3_takeBack_52 ?_
  clear h1
  refine g_aload_n C 1 dX3_takeBack_55 rfl ?_
  refine g_aload_n C 0 dX3_takeBack_56 rfl ?_
  refine g_getr C 3 0 (44) (by decide) sh_43 rfl vc_3 (by decide) inXX3 wfl_51 dX3_takeBack_57 ?_
  refine g_aload_n C 0 dX3_takeBack_60 rfl ?_
  refine g_geti C 3 3 (by decide) sh_43 rfl vc_3 (by decide) inXX3 wfl_54 dX3_takeBack_61 ?_
  obtain ⟨v64, h1, hf⟩ := g_bind hf
  refine g_iald C h1 dX3_takeBack_64 ?_
  clear h1
  obtain ⟨s65, h1, hf⟩ := g_bind hf
  refine g_putN C 6 1 (by decide) sh_1 rfl (by decide) vc_6 (by decide) tyX6 tyX6_ok nmX6 inXX6 wfn_34 rfl (ty := .int) (by decide +kernel) rfl rfl dX3_takeBack_65 ?_
  rw [Option.some.inj h1]
  clear h1
  have e0 : r0 = s65 := (Option.some.inj hf).symm
  exact g_vret C rfl hQ (by rw [e0]) dX3_takeBack_68
theorem c_X3_takeBack (l : Launch) {Gw : gW} (hI : g_I Gw) {σ : sg}  {r : sg}  (hf : f_X3_takeBack σ = some r) : gM l Gw yX3_takeBack cX3_takeBack 2 none rm_X3_takeBack [.ref (Gw.2.2 43), .ref (Gw.2.2 1)] σ (qV (Gw) r) := by
  refine g_met hI (by decide) (Nat.le_of_ble_eq_true rfl) (fun X h1 h2 C hQ => ?_)
  subst h1; subst h2
  exact w_X3_takeBack_e C  hQ hf
theorem dX4_copyFrom_0 : decode cX4_copyFrom 0 = .ok (.aload_n 1, 1) := by decide +kernel
theorem dX4_copyFrom_1 : decode cX4_copyFrom 1 = .ok (.getfield 9, 3) := by decide +kernel
theorem dX4_copyFrom_4 : decode cX4_copyFrom 4 = .ok (.iconst 0, 1) := by decide +kernel
theorem dX4_copyFrom_5 : decode cX4_copyFrom 5 = .ok (.aload_n 0, 1) := by decide +kernel
theorem dX4_copyFrom_6 : decode cX4_copyFrom 6 = .ok (.getfield 9, 3) := by decide +kernel
theorem dX4_copyFrom_9 : decode cX4_copyFrom 9 = .ok (.iconst 0, 1) := by decide +kernel
theorem dX4_copyFrom_10 : decode cX4_copyFrom 10 = .ok (.bipush 8, 2) := by decide +kernel
theorem dX4_copyFrom_12 : decode cX4_copyFrom 12 = .ok (.invokestatic 18, 3) := by decide +kernel
theorem dX4_copyFrom_15 : decode cX4_copyFrom 15 = .ok (.aload_n 1, 1) := by decide +kernel
theorem dX4_copyFrom_16 : decode cX4_copyFrom 16 = .ok (.getfield 15, 3) := by decide +kernel
theorem dX4_copyFrom_19 : decode cX4_copyFrom 19 = .ok (.iconst 0, 1) := by decide +kernel
theorem dX4_copyFrom_20 : decode cX4_copyFrom 20 = .ok (.aload_n 0, 1) := by decide +kernel
theorem dX4_copyFrom_21 : decode cX4_copyFrom 21 = .ok (.getfield 15, 3) := by decide +kernel
theorem dX4_copyFrom_24 : decode cX4_copyFrom 24 = .ok (.iconst 0, 1) := by decide +kernel
theorem dX4_copyFrom_25 : decode cX4_copyFrom 25 = .ok (.bipush 16, 2) := by decide +kernel
theorem dX4_copyFrom_27 : decode cX4_copyFrom 27 = .ok (.invokestatic 18, 3) := by decide +kernel
theorem dX4_copyFrom_30 : decode cX4_copyFrom 30 = .ok (.return_, 1) := by decide +kernel
abbrev rm_X4_copyFrom : Room := { frames := 1, cells := 0, slots := 0, locals := 60 }
theorem w_X4_copyFrom_e {X : gX} {σ : sg} {o : Nat} {p1 : Nat} {r0 : sg} (C : gC X cX4_copyFrom 2 RX4 none rm_X4_copyFrom) (hM : isM o) (hM1 : isM p1) (hQ : gQ X (qV (XG X) r0)) (hf : f_X4_copyFrom σ o p1 = some r0) : G X 2 σ 0 [(0, .ref (Xd X o)), (1, .ref (Xd X p1))] [] := by
  unfold f_X4_copyFrom at hf
  refine g_aload_n C 1 dX4_copyFrom_0 rfl ?_
  refine g_getr C 4 0 (p1 + 1) (isM_lt hM1) (g_shM hM1) rfl vc_4 (by decide) inXX4 wfl_228 dX4_copyFrom_1 ?_
  refine g_iconst C (v := 0) dX4_copyFrom_4 rfl ?_
  refine g_aload_n C 0 dX4_copyFrom_5 rfl ?_
  refine g_getr C 4 0 (o + 1) (isM_lt hM) (g_shM hM) rfl vc_4 (by decide) inXX4 wfl_228 dX4_copyFrom_6 ?_
  refine g_iconst C (v := 0) dX4_copyFrom_9 rfl ?_
  refine g_bipush C (v := 8) dX4_copyFrom_10 rfl ?_
  obtain ⟨s12, h1, hf⟩ := g_bind hf
  refine g_copy C h1 wml_647 wnt_312 wst_311 win_11 (Nat.le_of_ble_eq_true rfl) (Nat.le_of_ble_eq_true rfl) dX4_copyFrom_12 ?_
  clear h1
  refine g_aload_n C 1 dX4_copyFrom_15 rfl ?_
  refine g_getr C 4 1 (p1 + 2) (isM_lt hM1) (g_shM hM1) rfl vc_4 (by decide) inXX4 wfl_230 dX4_copyFrom_16 ?_
  refine g_iconst C (v := 0) dX4_copyFrom_19 rfl ?_
  refine g_aload_n C 0 dX4_copyFrom_20 rfl ?_
  refine g_getr C 4 1 (o + 2) (isM_lt hM) (g_shM hM) rfl vc_4 (by decide) inXX4 wfl_230 dX4_copyFrom_21 ?_
  refine g_iconst C (v := 0) dX4_copyFrom_24 rfl ?_
  refine g_bipush C (v := 16) dX4_copyFrom_25 rfl ?_
  obtain ⟨s27, h1, hf⟩ := g_bind hf
  refine g_copy C h1 wml_647 wnt_312 wst_311 win_11 (Nat.le_of_ble_eq_true rfl) (Nat.le_of_ble_eq_true rfl) dX4_copyFrom_27 ?_
  clear h1
  have e0 : r0 = s27 := (Option.some.inj hf).symm
  exact g_vret C rfl hQ (by rw [e0]) dX4_copyFrom_30
theorem c_X4_copyFrom (l : Launch) {Gw : gW} (hI : g_I Gw) {σ : sg} {o : Nat} {p1 : Nat} {r : sg} (hM : isM o) (hM1 : isM p1) (hf : f_X4_copyFrom σ o p1 = some r) : gM l Gw yX4_copyFrom cX4_copyFrom 2 none rm_X4_copyFrom [.ref (Gw.2.2 o), .ref (Gw.2.2 p1)] σ (qV (Gw) r) := by
  refine g_met hI (by decide) (Nat.le_of_ble_eq_true rfl) (fun X h1 h2 C hQ => ?_)
  subst h1; subst h2
  exact w_X4_copyFrom_e C hM hM1 hQ hf
theorem dX4_holdsTheSameAs_0 : decode cX4_holdsTheSameAs 0 = .ok (.iconst 0, 1) := by decide +kernel
theorem dX4_holdsTheSameAs_1 : decode cX4_holdsTheSameAs 1 = .ok (.istore_n 2, 1) := by decide +kernel
theorem dX4_holdsTheSameAs_2 : decode cX4_holdsTheSameAs 2 = .ok (.iload_n 2, 1) := by decide +kernel
theorem dX4_holdsTheSameAs_3 : decode cX4_holdsTheSameAs 3 = .ok (.bipush 8, 2) := by decide +kernel
theorem dX4_holdsTheSameAs_5 : decode cX4_holdsTheSameAs 5 = .ok (.if_icmp .ge 26, 3) := by decide +kernel
theorem dX4_holdsTheSameAs_8 : decode cX4_holdsTheSameAs 8 = .ok (.aload_n 0, 1) := by decide +kernel
theorem dX4_holdsTheSameAs_9 : decode cX4_holdsTheSameAs 9 = .ok (.getfield 9, 3) := by decide +kernel
theorem dX4_holdsTheSameAs_12 : decode cX4_holdsTheSameAs 12 = .ok (.iload_n 2, 1) := by decide +kernel
theorem dX4_holdsTheSameAs_13 : decode cX4_holdsTheSameAs 13 = .ok (.iaload, 1) := by decide +kernel
theorem dX4_holdsTheSameAs_14 : decode cX4_holdsTheSameAs 14 = .ok (.aload_n 1, 1) := by decide +kernel
theorem dX4_holdsTheSameAs_15 : decode cX4_holdsTheSameAs 15 = .ok (.getfield 9, 3) := by decide +kernel
theorem dX4_holdsTheSameAs_18 : decode cX4_holdsTheSameAs 18 = .ok (.iload_n 2, 1) := by decide +kernel
theorem dX4_holdsTheSameAs_19 : decode cX4_holdsTheSameAs 19 = .ok (.iaload, 1) := by decide +kernel
theorem dX4_holdsTheSameAs_20 : decode cX4_holdsTheSameAs 20 = .ok (.if_icmp .eq 5, 3) := by decide +kernel
theorem dX4_holdsTheSameAs_23 : decode cX4_holdsTheSameAs 23 = .ok (.iconst 0, 1) := by decide +kernel
theorem dX4_holdsTheSameAs_24 : decode cX4_holdsTheSameAs 24 = .ok (.ireturn, 1) := by decide +kernel
theorem dX4_holdsTheSameAs_25 : decode cX4_holdsTheSameAs 25 = .ok (.iinc 2 1, 3) := by decide +kernel
theorem dX4_holdsTheSameAs_28 : decode cX4_holdsTheSameAs 28 = .ok (.goto (-26), 3) := by decide +kernel
theorem dX4_holdsTheSameAs_31 : decode cX4_holdsTheSameAs 31 = .ok (.iconst 0, 1) := by decide +kernel
theorem dX4_holdsTheSameAs_32 : decode cX4_holdsTheSameAs 32 = .ok (.istore_n 2, 1) := by decide +kernel
theorem dX4_holdsTheSameAs_33 : decode cX4_holdsTheSameAs 33 = .ok (.iload_n 2, 1) := by decide +kernel
theorem dX4_holdsTheSameAs_34 : decode cX4_holdsTheSameAs 34 = .ok (.bipush 16, 2) := by decide +kernel
theorem dX4_holdsTheSameAs_36 : decode cX4_holdsTheSameAs 36 = .ok (.if_icmp .ge 26, 3) := by decide +kernel
theorem dX4_holdsTheSameAs_39 : decode cX4_holdsTheSameAs 39 = .ok (.aload_n 0, 1) := by decide +kernel
theorem dX4_holdsTheSameAs_40 : decode cX4_holdsTheSameAs 40 = .ok (.getfield 15, 3) := by decide +kernel
theorem dX4_holdsTheSameAs_43 : decode cX4_holdsTheSameAs 43 = .ok (.iload_n 2, 1) := by decide +kernel
theorem dX4_holdsTheSameAs_44 : decode cX4_holdsTheSameAs 44 = .ok (.iaload, 1) := by decide +kernel
theorem dX4_holdsTheSameAs_45 : decode cX4_holdsTheSameAs 45 = .ok (.aload_n 1, 1) := by decide +kernel
theorem dX4_holdsTheSameAs_46 : decode cX4_holdsTheSameAs 46 = .ok (.getfield 15, 3) := by decide +kernel
theorem dX4_holdsTheSameAs_49 : decode cX4_holdsTheSameAs 49 = .ok (.iload_n 2, 1) := by decide +kernel
theorem dX4_holdsTheSameAs_50 : decode cX4_holdsTheSameAs 50 = .ok (.iaload, 1) := by decide +kernel
theorem dX4_holdsTheSameAs_51 : decode cX4_holdsTheSameAs 51 = .ok (.if_icmp .eq 5, 3) := by decide +kernel
theorem dX4_holdsTheSameAs_54 : decode cX4_holdsTheSameAs 54 = .ok (.iconst 0, 1) := by decide +kernel
theorem dX4_holdsTheSameAs_55 : decode cX4_holdsTheSameAs 55 = .ok (.ireturn, 1) := by decide +kernel
theorem dX4_holdsTheSameAs_56 : decode cX4_holdsTheSameAs 56 = .ok (.iinc 2 1, 3) := by decide +kernel
theorem dX4_holdsTheSameAs_59 : decode cX4_holdsTheSameAs 59 = .ok (.goto (-26), 3) := by decide +kernel
theorem dX4_holdsTheSameAs_62 : decode cX4_holdsTheSameAs 62 = .ok (.iconst 1, 1) := by decide +kernel
theorem dX4_holdsTheSameAs_63 : decode cX4_holdsTheSameAs 63 = .ok (.ireturn, 1) := by decide +kernel
abbrev rm_X4_holdsTheSameAs : Room := { frames := 0, cells := 0, slots := 0, locals := 0 }
theorem w_X4_holdsTheSameAs_33 {X : gX} {σ : sg} {o : Nat} {p1 : Nat} {x2 : Int32} {r0 : Int32} {r1 : (Int32 ⊕ Int32)} (C : gC X cX4_holdsTheSameAs 3 RX4 (some .boolean) rm_X4_holdsTheSameAs) (hM : isM o) (hM1 : isM p1) (hQ : gQ X (qI (XG X) r0 σ)) (A1 : ∀ b, r1 = .inl b → G X 3 σ 33 [(0, .ref (Xd X o)), (1, .ref (Xd X p1)), (2, .int b)] []) (B1 : ∀ b, r1 = .inr b → b = r0) (hf : B_X4_holdsTheSameAs_33 σ o p1 x2 = some r1) : G X 3 σ 33 [(0, .ref (Xd X o)), (1, .ref (Xd X p1)), (2, .int x2)] [] := by
  unfold B_X4_holdsTheSameAs_33 at hf
  refine g_iload_n C 2 dX4_holdsTheSameAs_33 rfl ?_
  refine g_bipush C (v := 16) dX4_holdsTheSameAs_34 rfl ?_
  refine g_icmp_ge C 62 hf dX4_holdsTheSameAs_36 (by decide) (fun hf => ?_) (fun hf => ?_)
  · refine g_iconst C (v := 1) dX4_holdsTheSameAs_62 rfl ?_
    have e0 : r0 = (1 : Int32) := (B1 _ (Option.some.inj hf).symm).symm
    exact g_iret C rfl hQ (by rw [e0]) rfl dX4_holdsTheSameAs_63
  · refine g_aload_n C 0 dX4_holdsTheSameAs_39 rfl ?_
    refine g_getr C 4 1 (o + 2) (isM_lt hM) (g_shM hM) rfl vc_4 (by decide) inXX4 wfl_230 dX4_holdsTheSameAs_40 ?_
    refine g_iload_n C 2 dX4_holdsTheSameAs_43 rfl ?_
    obtain ⟨v44, h1, hf⟩ := g_bind hf
    refine g_iald C h1 dX4_holdsTheSameAs_44 ?_
    clear h1
    refine g_aload_n C 1 dX4_holdsTheSameAs_45 rfl ?_
    refine g_getr C 4 1 (p1 + 2) (isM_lt hM1) (g_shM hM1) rfl vc_4 (by decide) inXX4 wfl_230 dX4_holdsTheSameAs_46 ?_
    refine g_iload_n C 2 dX4_holdsTheSameAs_49 rfl ?_
    obtain ⟨v50, h1, hf⟩ := g_bind hf
    refine g_iald C h1 dX4_holdsTheSameAs_50 ?_
    clear h1
    refine g_icmp_eq C 56 hf dX4_holdsTheSameAs_51 (by decide) (fun hf => ?_) (fun hf => ?_)
    · refine g_iinc C (v := x2 + (1 : Int32)) (lv' := [(2, .int (x2 + (1 : Int32))), (0, .ref (Xd X o)), (1, .ref (Xd X p1))]) 2 dX4_holdsTheSameAs_56 rfl rfl (by decide) rfl ?_
      refine g_goto C 33 dX4_holdsTheSameAs_59 (by decide) ?_
      refine g_sub [1, 2, 0] rfl ?_
      exact A1 (x2 + (1 : Int32)) (Option.some.inj hf).symm
    · refine g_iconst C (v := 0) dX4_holdsTheSameAs_54 rfl ?_
      have e0 : r0 = (0 : Int32) := (B1 _ (Option.some.inj hf).symm).symm
      exact g_iret C rfl hQ (by rw [e0]) rfl dX4_holdsTheSameAs_55
theorem wl_X4_holdsTheSameAs_33 {X : gX} {σ : sg} {o : Nat} {p1 : Nat} {r0 : Int32} (C : gC X cX4_holdsTheSameAs 3 RX4 (some .boolean) rm_X4_holdsTheSameAs) (hM : isM o) (hM1 : isM p1) (hQ : gQ X (qI (XG X) r0 σ))  {n : Nat} {a : Int32} (hf : L_X4_holdsTheSameAs_33 σ o p1 n a = some r0) : G X 3 σ 33 [(0, .ref (Xd X o)), (1, .ref (Xd X p1)), (2, .int a)] [] := by
  unfold L_X4_holdsTheSameAs_33 at hf
  have key := g_loop_ind (res := r0) (f := fun a => B_X4_holdsTheSameAs_33 σ o p1 a) (P := fun a => G X 3 σ 33 [(0, .ref (Xd X o)), (1, .ref (Xd X p1)), (2, .int a)] []) (fun a r1 h1 k1 k2 => w_X4_holdsTheSameAs_33 (x2 := a) C hM hM1 hQ  k1 k2 h1)
  exact key n a hf
theorem w_X4_holdsTheSameAs_2 {X : gX} {σ : sg} {o : Nat} {p1 : Nat} {x2 : Int32} {r0 : Int32} {r1 : (Int32 ⊕ Int32)} (C : gC X cX4_holdsTheSameAs 3 RX4 (some .boolean) rm_X4_holdsTheSameAs) (hM : isM o) (hM1 : isM p1) (hQ : gQ X (qI (XG X) r0 σ)) (A1 : ∀ b, r1 = .inl b → G X 3 σ 2 [(0, .ref (Xd X o)), (1, .ref (Xd X p1)), (2, .int b)] []) (B1 : ∀ b, r1 = .inr b → b = r0) (hf : B_X4_holdsTheSameAs_2 σ o p1 x2 = some r1) : G X 3 σ 2 [(0, .ref (Xd X o)), (1, .ref (Xd X p1)), (2, .int x2)] [] := by
  unfold B_X4_holdsTheSameAs_2 at hf
  refine g_iload_n C 2 dX4_holdsTheSameAs_2 rfl ?_
  refine g_bipush C (v := 8) dX4_holdsTheSameAs_3 rfl ?_
  refine g_icmp_ge C 31 hf dX4_holdsTheSameAs_5 (by decide) (fun hf => ?_) (fun hf => ?_)
  · refine g_iconst C (v := 0) dX4_holdsTheSameAs_31 rfl ?_
    refine g_istore_n C (lv' := [(2, .int (0 : Int32)), (0, .ref (Xd X o)), (1, .ref (Xd X p1))]) dX4_holdsTheSameAs_32 (by decide) rfl ?_
    refine g_sub [1, 2, 0] rfl ?_
    obtain ⟨t, h1, hf⟩ := g_bind hf
    exact wl_X4_holdsTheSameAs_33 (a := (0 : Int32)) C hM hM1 hQ  (h1.trans (congrArg some ((B1 _ (Option.some.inj hf).symm).symm).symm))
  · refine g_aload_n C 0 dX4_holdsTheSameAs_8 rfl ?_
    refine g_getr C 4 0 (o + 1) (isM_lt hM) (g_shM hM) rfl vc_4 (by decide) inXX4 wfl_228 dX4_holdsTheSameAs_9 ?_
    refine g_iload_n C 2 dX4_holdsTheSameAs_12 rfl ?_
    obtain ⟨v13, h1, hf⟩ := g_bind hf
    refine g_iald C h1 dX4_holdsTheSameAs_13 ?_
    clear h1
    refine g_aload_n C 1 dX4_holdsTheSameAs_14 rfl ?_
    refine g_getr C 4 0 (p1 + 1) (isM_lt hM1) (g_shM hM1) rfl vc_4 (by decide) inXX4 wfl_228 dX4_holdsTheSameAs_15 ?_
    refine g_iload_n C 2 dX4_holdsTheSameAs_18 rfl ?_
    obtain ⟨v19, h1, hf⟩ := g_bind hf
    refine g_iald C h1 dX4_holdsTheSameAs_19 ?_
    clear h1
    refine g_icmp_eq C 25 hf dX4_holdsTheSameAs_20 (by decide) (fun hf => ?_) (fun hf => ?_)
    · refine g_iinc C (v := x2 + (1 : Int32)) (lv' := [(2, .int (x2 + (1 : Int32))), (0, .ref (Xd X o)), (1, .ref (Xd X p1))]) 2 dX4_holdsTheSameAs_25 rfl rfl (by decide) rfl ?_
      refine g_goto C 2 dX4_holdsTheSameAs_28 (by decide) ?_
      refine g_sub [1, 2, 0] rfl ?_
      exact A1 (x2 + (1 : Int32)) (Option.some.inj hf).symm
    · refine g_iconst C (v := 0) dX4_holdsTheSameAs_23 rfl ?_
      have e0 : r0 = (0 : Int32) := (B1 _ (Option.some.inj hf).symm).symm
      exact g_iret C rfl hQ (by rw [e0]) rfl dX4_holdsTheSameAs_24
theorem wl_X4_holdsTheSameAs_2 {X : gX} {σ : sg} {o : Nat} {p1 : Nat} {r0 : Int32} (C : gC X cX4_holdsTheSameAs 3 RX4 (some .boolean) rm_X4_holdsTheSameAs) (hM : isM o) (hM1 : isM p1) (hQ : gQ X (qI (XG X) r0 σ))  {n : Nat} {a : Int32} (hf : L_X4_holdsTheSameAs_2 σ o p1 n a = some r0) : G X 3 σ 2 [(0, .ref (Xd X o)), (1, .ref (Xd X p1)), (2, .int a)] [] := by
  unfold L_X4_holdsTheSameAs_2 at hf
  have key := g_loop_ind (res := r0) (f := fun a => B_X4_holdsTheSameAs_2 σ o p1 a) (P := fun a => G X 3 σ 2 [(0, .ref (Xd X o)), (1, .ref (Xd X p1)), (2, .int a)] []) (fun a r1 h1 k1 k2 => w_X4_holdsTheSameAs_2 (x2 := a) C hM hM1 hQ  k1 k2 h1)
  exact key n a hf
theorem w_X4_holdsTheSameAs_e {X : gX} {σ : sg} {o : Nat} {p1 : Nat} {r0 : Int32} (C : gC X cX4_holdsTheSameAs 3 RX4 (some .boolean) rm_X4_holdsTheSameAs) (hM : isM o) (hM1 : isM p1) (hQ : gQ X (qI (XG X) r0 σ)) (hf : f_X4_holdsTheSameAs σ o p1 = some r0) : G X 3 σ 0 [(0, .ref (Xd X o)), (1, .ref (Xd X p1))] [] := by
  unfold f_X4_holdsTheSameAs at hf
  refine g_iconst C (v := 0) dX4_holdsTheSameAs_0 rfl ?_
  refine g_istore_n C (lv' := [(2, .int (0 : Int32)), (0, .ref (Xd X o)), (1, .ref (Xd X p1))]) dX4_holdsTheSameAs_1 (by decide) rfl ?_
  refine g_sub [1, 2, 0] rfl ?_
  exact wl_X4_holdsTheSameAs_2 (a := (0 : Int32)) C hM hM1 hQ  hf
theorem c_X4_holdsTheSameAs (l : Launch) {Gw : gW} (hI : g_I Gw) {σ : sg} {o : Nat} {p1 : Nat} {r : Int32} (hM : isM o) (hM1 : isM p1) (hf : f_X4_holdsTheSameAs σ o p1 = some r) : gM l Gw yX4_holdsTheSameAs cX4_holdsTheSameAs 3 (some .boolean) rm_X4_holdsTheSameAs [.ref (Gw.2.2 o), .ref (Gw.2.2 p1)] σ (qI (Gw) r σ) := by
  refine g_met hI (by decide) (Nat.le_of_ble_eq_true rfl) (fun X h1 h2 C hQ => ?_)
  subst h1; subst h2
  exact w_X4_holdsTheSameAs_e C hM hM1 hQ hf
theorem dX4_step_0 : decode cX4_step 0 = .ok (.aload_n 0, 1) := by decide +kernel
theorem dX4_step_1 : decode cX4_step 1 = .ok (.aload_n 1, 1) := by decide +kernel
theorem dX4_step_2 : decode cX4_step 2 = .ok (.iload_n 2, 1) := by decide +kernel
theorem dX4_step_3 : decode cX4_step 3 = .ok (.invokevirtual 24, 3) := by decide +kernel
theorem dX4_step_6 : decode cX4_step 6 = .ok (.istore_n 3, 1) := by decide +kernel
theorem dX4_step_7 : decode cX4_step 7 = .ok (.aload_n 0, 1) := by decide +kernel
theorem dX4_step_8 : decode cX4_step 8 = .ok (.aload_n 1, 1) := by decide +kernel
theorem dX4_step_9 : decode cX4_step 9 = .ok (.aload_n 0, 1) := by decide +kernel
theorem dX4_step_10 : decode cX4_step 10 = .ok (.aload_n 1, 1) := by decide +kernel
theorem dX4_step_11 : decode cX4_step 11 = .ok (.invokevirtual 28, 3) := by decide +kernel
theorem dX4_step_14 : decode cX4_step 14 = .ok (.aload_n 0, 1) := by decide +kernel
theorem dX4_step_15 : decode cX4_step 15 = .ok (.aload_n 1, 1) := by decide +kernel
theorem dX4_step_16 : decode cX4_step 16 = .ok (.invokevirtual 32, 3) := by decide +kernel
theorem dX4_step_19 : decode cX4_step 19 = .ok (.invokevirtual 35, 3) := by decide +kernel
theorem dX4_step_22 : decode cX4_step 22 = .ok (.iload_n 3, 1) := by decide +kernel
theorem dX4_step_23 : decode cX4_step 23 = .ok (.ireturn, 1) := by decide +kernel
abbrev rm_X4_step : Room := { frames := 2, cells := 0, slots := 0, locals := 43 }
theorem w_X4_step_e {X : gX} {σ : sg} {o : Nat} {p1 : Nat} {p2 : Int32} {r0 : (Int32 × sg)} (C : gC X cX4_step 4 RX4 (some .int) rm_X4_step) (hM : isM o) (hQ : gQ X (qI (XG X) r0.1 r0.2)) (hf : f_X4_step σ o p1 p2 = some r0) : G X 4 σ 0 [(0, .ref (Xd X o)), (1, .ref (Xd X p1)), (2, .int p2)] [] := by
  unfold f_X4_step at hf
  refine g_aload_n C 0 dX4_step_0 rfl ?_
  refine g_aload_n C 1 dX4_step_1 rfl ?_
  refine g_iload_n C 2 dX4_step_2 rfl ?_
  obtain ⟨v3, h1, hf⟩ := g_bind hf
  refine g_callVi C 2 [.ref (Xd X p1), .int p2] (c_X4_successor (Xl X) (gC_I C) hM h1) ⟨wml_594, wim_595, wse_596, win_8, wcd_597⟩ (isM_lt hM) (g_shM hM) vc_4 rfl hd_X4_successor ⟨rfl, rfl⟩ ⟨Nat.le_of_ble_eq_true rfl, Nat.le_of_ble_eq_true rfl⟩ rfl rfl (Nat.le_of_ble_eq_true rfl) dX4_step_3 ?_
  clear h1
  refine g_istore_n C (lv' := [(3, .int v3), (0, .ref (Xd X o)), (1, .ref (Xd X p1)), (2, .int p2)]) dX4_step_6 (by decide) rfl ?_
  refine g_aload_n C 1 dX4_step_7 rfl ?_
  refine g_aload_n C 2 dX4_step_8 rfl ?_
  refine g_aload_n C 1 dX4_step_9 rfl ?_
  refine g_aload_n C 2 dX4_step_10 rfl ?_
  obtain ⟨v11, h1, hf⟩ := g_bind hf
  refine g_callVi C 1 [.ref (Xd X p1)] (c_X4_cellOf (Xl X) (gC_I C) hM h1) ⟨wml_598, wim_599, wse_600, win_8, wcd_601⟩ (isM_lt hM) (g_shM hM) vc_4 rfl hd_X4_cellOf ⟨rfl, rfl⟩ ⟨Nat.le_of_ble_eq_true rfl, Nat.le_of_ble_eq_true rfl⟩ rfl rfl (Nat.le_of_ble_eq_true rfl) dX4_step_11 ?_
  clear h1
  refine g_aload_n C 1 dX4_step_14 rfl ?_
  refine g_aload_n C 2 dX4_step_15 rfl ?_
  obtain ⟨v16, h1, hf⟩ := g_bind hf
  refine g_callVi C 1 [.ref (Xd X p1)] (c_X4_resultOf (Xl X) (gC_I C) hM h1) ⟨wml_602, wim_603, wse_604, win_8, wcd_605⟩ (isM_lt hM) (g_shM hM) vc_4 rfl hd_X4_resultOf ⟨rfl, rfl⟩ ⟨Nat.le_of_ble_eq_true rfl, Nat.le_of_ble_eq_true rfl⟩ rfl rfl (Nat.le_of_ble_eq_true rfl) dX4_step_16 ?_
  clear h1
  obtain ⟨s19, h1, hf⟩ := g_bind hf
  refine g_callVv C 3 [.ref (Xd X p1), .int v11, .int v16] (c_X4_take (Xl X) (gC_I C) hM h1) ⟨wml_609, wim_610, wse_611, win_8, wcd_612⟩ (isM_lt hM) (g_shM hM) vc_4 rfl hd_X4_take ⟨rfl, rfl⟩ ⟨Nat.le_of_ble_eq_true rfl, Nat.le_of_ble_eq_true rfl⟩ rfl rfl (Nat.le_of_ble_eq_true rfl) dX4_step_19 ?_
  clear h1
  refine g_iload_n C 0 dX4_step_22 rfl ?_
  have e0 : r0 = (v3, s19) := (Option.some.inj hf).symm
  exact g_iret C rfl hQ (by rw [e0]) rfl dX4_step_23
theorem c_X4_step (l : Launch) {Gw : gW} (hI : g_I Gw) {σ : sg} {o : Nat} {p1 : Nat} {p2 : Int32} {r : (Int32 × sg)} (hM : isM o) (hf : f_X4_step σ o p1 p2 = some r) : gM l Gw yX4_step cX4_step 4 (some .int) rm_X4_step [.ref (Gw.2.2 o), .ref (Gw.2.2 p1), .int p2] σ (qI (Gw) r.1 r.2) := by
  refine g_met hI (by decide) (Nat.le_of_ble_eq_true rfl) (fun X h1 h2 C hQ => ?_)
  subst h1; subst h2
  exact w_X4_step_e C hM hQ hf
theorem dX5_clear_0 : decode cX5_clear 0 = .ok (.aload_n 0, 1) := by decide +kernel
theorem dX5_clear_1 : decode cX5_clear 1 = .ok (.iconst 0, 1) := by decide +kernel
theorem dX5_clear_2 : decode cX5_clear 2 = .ok (.putfield 45, 3) := by decide +kernel
theorem dX5_clear_5 : decode cX5_clear 5 = .ok (.aload_n 0, 1) := by decide +kernel
theorem dX5_clear_6 : decode cX5_clear 6 = .ok (.iconst 0, 1) := by decide +kernel
theorem dX5_clear_7 : decode cX5_clear 7 = .ok (.putfield 49, 3) := by decide +kernel
theorem dX5_clear_10 : decode cX5_clear 10 = .ok (.return_, 1) := by decide +kernel
abbrev rm_X5_clear : Room := { frames := 0, cells := 0, slots := 0, locals := 0 }
theorem w_X5_clear_e {X : gX} {σ : sg}  {r0 : sg} (C : gC X cX5_clear 1 RX5 none rm_X5_clear)  (hQ : gQ X (qV (XG X) r0)) (hf : f_X5_clear σ = some r0) : G X 1 σ 0 [(0, .ref (Xd X 75))] [] := by
  unfold f_X5_clear at hf
  refine g_aload_n C 0 dX5_clear_0 rfl ?_
  refine g_iconst C (v := 0) dX5_clear_1 rfl ?_
  obtain ⟨s2, h1, hf⟩ := g_bind hf
  refine g_put C 5 12 (by decide) sh_75 rfl (by decide) vc_5 (by decide) tyX5 tyX5_ok nmX5 inXX5 wfl_193 rfl (ty := .boolean) (by decide +kernel) rfl rfl dX5_clear_2 ?_
  rw [Option.some.inj h1]
  clear h1
  refine g_aload_n C 0 dX5_clear_5 rfl ?_
  refine g_iconst C (v := 0) dX5_clear_6 rfl ?_
  obtain ⟨s7, h1, hf⟩ := g_bind hf
  refine g_put C 5 11 (by decide) sh_75 rfl (by decide) vc_5 (by decide) tyX5 tyX5_ok nmX5 inXX5 wfl_191 rfl (ty := .int) (by decide +kernel) rfl rfl dX5_clear_7 ?_
  rw [Option.some.inj h1]
  clear h1
  have e0 : r0 = s7 := (Option.some.inj hf).symm
  exact g_vret C rfl hQ (by rw [e0]) dX5_clear_10
theorem c_X5_clear (l : Launch) {Gw : gW} (hI : g_I Gw) {σ : sg}  {r : sg}  (hf : f_X5_clear σ = some r) : gM l Gw yX5_clear cX5_clear 1 none rm_X5_clear [.ref (Gw.2.2 75)] σ (qV (Gw) r) := by
  refine g_met hI (by decide) (Nat.le_of_ble_eq_true rfl) (fun X h1 h2 C hQ => ?_)
  subst h1; subst h2
  exact w_X5_clear_e C  hQ hf
theorem dX5_takeBundle_0 : decode cX5_takeBundle 0 = .ok (.aload_n 0, 1) := by decide +kernel
theorem dX5_takeBundle_1 : decode cX5_takeBundle 1 = .ok (.getfield 16, 3) := by decide +kernel
theorem dX5_takeBundle_4 : decode cX5_takeBundle 4 = .ok (.aload_n 0, 1) := by decide +kernel
theorem dX5_takeBundle_5 : decode cX5_takeBundle 5 = .ok (.getfield 49, 3) := by decide +kernel
theorem dX5_takeBundle_8 : decode cX5_takeBundle 8 = .ok (.iload_n 2, 1) := by decide +kernel
theorem dX5_takeBundle_9 : decode cX5_takeBundle 9 = .ok (.iastore, 1) := by decide +kernel
theorem dX5_takeBundle_10 : decode cX5_takeBundle 10 = .ok (.aload_n 0, 1) := by decide +kernel
theorem dX5_takeBundle_11 : decode cX5_takeBundle 11 = .ok (.getfield 20, 3) := by decide +kernel
theorem dX5_takeBundle_14 : decode cX5_takeBundle 14 = .ok (.aload_n 0, 1) := by decide +kernel
theorem dX5_takeBundle_15 : decode cX5_takeBundle 15 = .ok (.getfield 49, 3) := by decide +kernel
theorem dX5_takeBundle_18 : decode cX5_takeBundle 18 = .ok (.iload_n 1, 1) := by decide +kernel
theorem dX5_takeBundle_19 : decode cX5_takeBundle 19 = .ok (.iastore, 1) := by decide +kernel
theorem dX5_takeBundle_20 : decode cX5_takeBundle 20 = .ok (.iconst 0, 1) := by decide +kernel
theorem dX5_takeBundle_21 : decode cX5_takeBundle 21 = .ok (.istore 4, 2) := by decide +kernel
theorem dX5_takeBundle_23 : decode cX5_takeBundle 23 = .ok (.iload 4, 2) := by decide +kernel
theorem dX5_takeBundle_25 : decode cX5_takeBundle 25 = .ok (.iconst 3, 1) := by decide +kernel
theorem dX5_takeBundle_26 : decode cX5_takeBundle 26 = .ok (.if_icmp .ge 94, 3) := by decide +kernel
theorem dX5_takeBundle_29 : decode cX5_takeBundle 29 = .ok (.aload_n 3, 1) := by decide +kernel
theorem dX5_takeBundle_30 : decode cX5_takeBundle 30 = .ok (.getfield 79, 3) := by decide +kernel
theorem dX5_takeBundle_33 : decode cX5_takeBundle 33 = .ok (.iload 4, 2) := by decide +kernel
theorem dX5_takeBundle_35 : decode cX5_takeBundle 35 = .ok (.iaload, 1) := by decide +kernel
theorem dX5_takeBundle_36 : decode cX5_takeBundle 36 = .ok (.istore 5, 2) := by decide +kernel
theorem dX5_takeBundle_38 : decode cX5_takeBundle 38 = .ok (.aload_n 0, 1) := by decide +kernel
theorem dX5_takeBundle_39 : decode cX5_takeBundle 39 = .ok (.getfield 11, 3) := by decide +kernel
theorem dX5_takeBundle_42 : decode cX5_takeBundle 42 = .ok (.aload_n 0, 1) := by decide +kernel
theorem dX5_takeBundle_43 : decode cX5_takeBundle 43 = .ok (.getfield 49, 3) := by decide +kernel
theorem dX5_takeBundle_46 : decode cX5_takeBundle 46 = .ok (.aaload, 1) := by decide +kernel
theorem dX5_takeBundle_47 : decode cX5_takeBundle 47 = .ok (.iload 4, 2) := by decide +kernel
theorem dX5_takeBundle_49 : decode cX5_takeBundle 49 = .ok (.iload 5, 2) := by decide +kernel
theorem dX5_takeBundle_51 : decode cX5_takeBundle 51 = .ok (.iastore, 1) := by decide +kernel
theorem dX5_takeBundle_52 : decode cX5_takeBundle 52 = .ok (.iload 5, 2) := by decide +kernel
theorem dX5_takeBundle_54 : decode cX5_takeBundle 54 = .ok (.bipush (-4), 2) := by decide +kernel
theorem dX5_takeBundle_56 : decode cX5_takeBundle 56 = .ok (.if_icmp .eq 58, 3) := by decide +kernel
theorem dX5_takeBundle_59 : decode cX5_takeBundle 59 = .ok (.aload_n 0, 1) := by decide +kernel
theorem dX5_takeBundle_60 : decode cX5_takeBundle 60 = .ok (.getfield 23, 3) := by decide +kernel
theorem dX5_takeBundle_63 : decode cX5_takeBundle 63 = .ok (.iload 5, 2) := by decide +kernel
theorem dX5_takeBundle_65 : decode cX5_takeBundle 65 = .ok (.aload_n 0, 1) := by decide +kernel
theorem dX5_takeBundle_66 : decode cX5_takeBundle 66 = .ok (.getfield 49, 3) := by decide +kernel
theorem dX5_takeBundle_69 : decode cX5_takeBundle 69 = .ok (.iastore, 1) := by decide +kernel
theorem dX5_takeBundle_70 : decode cX5_takeBundle 70 = .ok (.aload_n 0, 1) := by decide +kernel
theorem dX5_takeBundle_71 : decode cX5_takeBundle 71 = .ok (.getfield 26, 3) := by decide +kernel
theorem dX5_takeBundle_74 : decode cX5_takeBundle 74 = .ok (.iload 5, 2) := by decide +kernel
theorem dX5_takeBundle_76 : decode cX5_takeBundle 76 = .ok (.iload 4, 2) := by decide +kernel
theorem dX5_takeBundle_78 : decode cX5_takeBundle 78 = .ok (.iastore, 1) := by decide +kernel
theorem dX5_takeBundle_79 : decode cX5_takeBundle 79 = .ok (.aload_n 0, 1) := by decide +kernel
theorem dX5_takeBundle_80 : decode cX5_takeBundle 80 = .ok (.getfield 29, 3) := by decide +kernel
theorem dX5_takeBundle_83 : decode cX5_takeBundle 83 = .ok (.iload 5, 2) := by decide +kernel
theorem dX5_takeBundle_85 : decode cX5_takeBundle 85 = .ok (.aload_n 3, 1) := by decide +kernel
theorem dX5_takeBundle_86 : decode cX5_takeBundle 86 = .ok (.getfield 81, 3) := by decide +kernel
theorem dX5_takeBundle_89 : decode cX5_takeBundle 89 = .ok (.iload 5, 2) := by decide +kernel
theorem dX5_takeBundle_91 : decode cX5_takeBundle 91 = .ok (.iaload, 1) := by decide +kernel
theorem dX5_takeBundle_92 : decode cX5_takeBundle 92 = .ok (.iastore, 1) := by decide +kernel
theorem dX5_takeBundle_93 : decode cX5_takeBundle 93 = .ok (.aload_n 0, 1) := by decide +kernel
theorem dX5_takeBundle_94 : decode cX5_takeBundle 94 = .ok (.getfield 32, 3) := by decide +kernel
theorem dX5_takeBundle_97 : decode cX5_takeBundle 97 = .ok (.iload_n 1, 1) := by decide +kernel
theorem dX5_takeBundle_98 : decode cX5_takeBundle 98 = .ok (.aload_n 0, 1) := by decide +kernel
theorem dX5_takeBundle_99 : decode cX5_takeBundle 99 = .ok (.getfield 32, 3) := by decide +kernel
theorem dX5_takeBundle_102 : decode cX5_takeBundle 102 = .ok (.iload_n 1, 1) := by decide +kernel
theorem dX5_takeBundle_103 : decode cX5_takeBundle 103 = .ok (.iaload, 1) := by decide +kernel
theorem dX5_takeBundle_104 : decode cX5_takeBundle 104 = .ok (.aload_n 0, 1) := by decide +kernel
theorem dX5_takeBundle_105 : decode cX5_takeBundle 105 = .ok (.iload 5, 2) := by decide +kernel
theorem dX5_takeBundle_107 : decode cX5_takeBundle 107 = .ok (.invokevirtual 84, 3) := by decide +kernel
theorem dX5_takeBundle_110 : decode cX5_takeBundle 110 = .ok (.invokestatic 88, 3) := by decide +kernel
theorem dX5_takeBundle_113 : decode cX5_takeBundle 113 = .ok (.iastore, 1) := by decide +kernel
theorem dX5_takeBundle_114 : decode cX5_takeBundle 114 = .ok (.iinc 4 1, 3) := by decide +kernel
theorem dX5_takeBundle_117 : decode cX5_takeBundle 117 = .ok (.goto (-94), 3) := by decide +kernel
theorem dX5_takeBundle_120 : decode cX5_takeBundle 120 = .ok (.aload_n 0, 1) := by decide +kernel
theorem dX5_takeBundle_121 : decode cX5_takeBundle 121 = .ok (.dup, 1) := by decide +kernel
theorem dX5_takeBundle_122 : decode cX5_takeBundle 122 = .ok (.getfield 49, 3) := by decide +kernel
theorem dX5_takeBundle_125 : decode cX5_takeBundle 125 = .ok (.iconst 1, 1) := by decide +kernel
theorem dX5_takeBundle_126 : decode cX5_takeBundle 126 = .ok (.iadd, 1) := by decide +kernel
theorem dX5_takeBundle_127 : decode cX5_takeBundle 127 = .ok (.putfield 49, 3) := by decide +kernel
theorem dX5_takeBundle_130 : decode cX5_takeBundle 130 = .ok (.return_, 1) := by decide +kernel
abbrev rm_X5_takeBundle : Room := { frames := 2, cells := 0, slots := 0, locals := 60 }
theorem w_X5_takeBundle_114 {X : gX} {p1 : Int32} {x4 : Int32} {σ : sg} {r0 : sg} {r1 : ((Int32 × sg) ⊕ sg)} (C : gC X cX5_takeBundle 6 RX5 none rm_X5_takeBundle)  (hQ : gQ X (qV (XG X) r0)) (A1 : ∀ b, r1 = .inl b → G X 6 b.2 23 [(0, .ref (Xd X 75)), (1, .int p1), (3, .ref (Xd X 72)), (4, .int b.1)] []) (B1 : ∀ b, r1 = .inr b → b = r0) (hf : J_X5_takeBundle_114 p1 x4 σ = some r1) : G X 6 σ 114 [(0, .ref (Xd X 75)), (1, .int p1), (3, .ref (Xd X 72)), (4, .int x4)] [] := by
  unfold J_X5_takeBundle_114 at hf
  refine g_iinc C (v := x4 + (1 : Int32)) (lv' := [(4, .int (x4 + (1 : Int32))), (0, .ref (Xd X 75)), (1, .int p1), (3, .ref (Xd X 72))]) 3 dX5_takeBundle_114 rfl rfl (by decide) rfl ?_
  refine g_goto C 23 dX5_takeBundle_117 (by decide) ?_
  refine g_sub [1, 2, 3, 0] rfl ?_
  exact A1 (x4 + (1 : Int32), σ) (Option.some.inj hf).symm
theorem w_X5_takeBundle_23 {X : gX} {p1 : Int32} {x4 : Int32} {σ : sg} {r0 : sg} {r1 : ((Int32 × sg) ⊕ sg)} (C : gC X cX5_takeBundle 6 RX5 none rm_X5_takeBundle)  (hQ : gQ X (qV (XG X) r0)) (A1 : ∀ b, r1 = .inl b → G X 6 b.2 23 [(0, .ref (Xd X 75)), (1, .int p1), (3, .ref (Xd X 72)), (4, .int b.1)] []) (B1 : ∀ b, r1 = .inr b → b = r0) (hf : B_X5_takeBundle_23 p1 x4 σ = some r1) : G X 6 σ 23 [(0, .ref (Xd X 75)), (1, .int p1), (3, .ref (Xd X 72)), (4, .int x4)] [] := by
  unfold B_X5_takeBundle_23 at hf
  refine g_iload C 3 dX5_takeBundle_23 rfl ?_
  refine g_iconst C (v := 3) dX5_takeBundle_25 rfl ?_
  refine g_icmp_ge C 120 hf dX5_takeBundle_26 (by decide) (fun hf => ?_) (fun hf => ?_)
  · refine g_aload_n C 0 dX5_takeBundle_120 rfl ?_
    refine g_dup C dX5_takeBundle_121 rfl ?_
    refine g_geti C 5 11 (by decide) sh_75 rfl vc_5 (by decide) inXX5 wfl_191 dX5_takeBundle_122 ?_
    refine g_iconst C (v := 1) dX5_takeBundle_125 rfl ?_
    refine g_iadd C dX5_takeBundle_126 ?_
    obtain ⟨s127, h1, hf⟩ := g_bind hf
    refine g_put C 5 11 (by decide) sh_75 rfl (by decide) vc_5 (by decide) tyX5 tyX5_ok nmX5 inXX5 wfl_191 rfl (ty := .int) (by decide +kernel) rfl rfl dX5_takeBundle_127 ?_
    rw [Option.some.inj h1]
    clear h1
    have e0 : r0 = s127 := (B1 _ (Option.some.inj hf).symm).symm
    exact g_vret C rfl hQ (by rw [e0]) dX5_takeBundle_130
  · refine g_aload_n C 2 dX5_takeBundle_29 rfl ?_
    refine g_getrN C 2 3 (74) (by decide) sh_72 rfl vc_2 (by decide) inXX2 wfn_132 dX5_takeBundle_30 ?_
    refine g_iload C 3 dX5_takeBundle_33 rfl ?_
    obtain ⟨v35, h1, hf⟩ := g_bind hf
    refine g_iald C h1 dX5_takeBundle_35 ?_
    clear h1
    refine g_istore C (lv' := [(5, .int v35), (0, .ref (Xd X 75)), (1, .int p1), (3, .ref (Xd X 72)), (4, .int x4)]) dX5_takeBundle_36 (by decide) rfl ?_
    refine g_aload_n C 1 dX5_takeBundle_38 rfl ?_
    refine g_getr C 5 1 (76) (by decide) sh_75 rfl vc_5 (by decide) inXX5 wfl_169 dX5_takeBundle_39 ?_
    refine g_aload_n C 1 dX5_takeBundle_42 rfl ?_
    refine g_geti C 5 11 (by decide) sh_75 rfl vc_5 (by decide) inXX5 wfl_191 dX5_takeBundle_43 ?_
    obtain ⟨q46, h1, hf⟩ := g_bind hf
    refine g_aald C h1 dX5_takeBundle_46 ?_
    clear h1
    refine g_iload C 4 dX5_takeBundle_47 rfl ?_
    refine g_iload C 0 dX5_takeBundle_49 rfl ?_
    obtain ⟨s51, h1, hf⟩ := g_bind hf
    refine g_iast C h1 dX5_takeBundle_51 ?_
    clear h1
    refine g_iload C 0 dX5_takeBundle_52 rfl ?_
    refine g_bipush C (v := (-4)) dX5_takeBundle_54 rfl ?_
    refine g_icmp_eq C 114 hf dX5_takeBundle_56 (by decide) (fun hf => ?_) (fun hf => ?_)
    · refine g_sub [1, 2, 3, 4] rfl ?_
      exact w_X5_takeBundle_114 C  hQ A1 B1 hf
    · refine g_aload_n C 1 dX5_takeBundle_59 rfl ?_
      refine g_getr C 5 4 (139) (by decide) sh_75 rfl vc_5 (by decide) inXX5 wfl_175 dX5_takeBundle_60 ?_
      refine g_iload C 0 dX5_takeBundle_63 rfl ?_
      refine g_aload_n C 1 dX5_takeBundle_65 rfl ?_
      refine g_geti C 5 11 (by decide) sh_75 rfl vc_5 (by decide) inXX5 wfl_191 dX5_takeBundle_66 ?_
      obtain ⟨s69, h1, hf⟩ := g_bind hf
      refine g_iast C h1 dX5_takeBundle_69 ?_
      clear h1
      refine g_aload_n C 1 dX5_takeBundle_70 rfl ?_
      refine g_getr C 5 5 (140) (by decide) sh_75 rfl vc_5 (by decide) inXX5 wfl_177 dX5_takeBundle_71 ?_
      refine g_iload C 0 dX5_takeBundle_74 rfl ?_
      refine g_iload C 4 dX5_takeBundle_76 rfl ?_
      obtain ⟨s78, h1, hf⟩ := g_bind hf
      refine g_iast C h1 dX5_takeBundle_78 ?_
      clear h1
      refine g_aload_n C 1 dX5_takeBundle_79 rfl ?_
      refine g_getr C 5 6 (141) (by decide) sh_75 rfl vc_5 (by decide) inXX5 wfl_179 dX5_takeBundle_80 ?_
      refine g_iload C 0 dX5_takeBundle_83 rfl ?_
      refine g_aload_n C 3 dX5_takeBundle_85 rfl ?_
      refine g_getrN C 2 2 (73) (by decide) sh_72 rfl vc_2 (by decide) inXX2 wfn_130 dX5_takeBundle_86 ?_
      refine g_iload C 0 dX5_takeBundle_89 rfl ?_
      obtain ⟨v91, h1, hf⟩ := g_bind hf
      refine g_iald C h1 dX5_takeBundle_91 ?_
      clear h1
      obtain ⟨s92, h1, hf⟩ := g_bind hf
      refine g_iast C h1 dX5_takeBundle_92 ?_
      clear h1
      refine g_aload_n C 1 dX5_takeBundle_93 rfl ?_
      refine g_getr C 5 7 (142) (by decide) sh_75 rfl vc_5 (by decide) inXX5 wfl_182 dX5_takeBundle_94 ?_
      refine g_iload_n C 2 dX5_takeBundle_97 rfl ?_
      refine g_aload_n C 1 dX5_takeBundle_98 rfl ?_
      refine g_getr C 5 7 (142) (by decide) sh_75 rfl vc_5 (by decide) inXX5 wfl_182 dX5_takeBundle_99 ?_
      refine g_iload_n C 2 dX5_takeBundle_102 rfl ?_
      obtain ⟨v103, h1, hf⟩ := g_bind hf
      refine g_iald C h1 dX5_takeBundle_103 ?_
      clear h1
      refine g_aload_n C 1 dX5_takeBundle_104 rfl ?_
      refine g_iload C 0 dX5_takeBundle_105 rfl ?_
      obtain ⟨v107, h1, hf⟩ := g_bind hf
      refine g_callVi C 1 [.int v35] (c_X5_due (Xl X) (gC_I C)  h1) ⟨wml_499, wim_500, wse_501, win_7, wcd_502⟩ (by decide) sh_75 vc_5 rfl hd_X5_due ⟨rfl, rfl⟩ ⟨Nat.le_of_ble_eq_true rfl, Nat.le_of_ble_eq_true rfl⟩ rfl rfl (Nat.le_of_ble_eq_true rfl) dX5_takeBundle_107 ?_
      clear h1
      refine g_max C wml_504 wst_418 win_12 wcd_419 (Nat.le_of_ble_eq_true rfl) (Nat.le_of_ble_eq_true rfl) dX5_takeBundle_110 ?_
      obtain ⟨s113, h1, hf⟩ := g_bind hf
      refine g_iast C h1 dX5_takeBundle_113 ?_
      clear h1
      refine g_sub [1, 2, 3, 4] rfl ?_
      exact w_X5_takeBundle_114 C  hQ A1 B1 hf
theorem wl_X5_takeBundle_23 {X : gX} {p1 : Int32} {r0 : sg} (C : gC X cX5_takeBundle 6 RX5 none rm_X5_takeBundle)  (hQ : gQ X (qV (XG X) r0))  {n : Nat} {a : (Int32 × sg)} (hf : L_X5_takeBundle_23 p1 n a = some r0) : G X 6 a.2 23 [(0, .ref (Xd X 75)), (1, .int p1), (3, .ref (Xd X 72)), (4, .int a.1)] [] := by
  unfold L_X5_takeBundle_23 at hf
  have key := g_loop_ind (res := r0) (f := fun a => B_X5_takeBundle_23 p1 a.1 a.2) (P := fun a => G X 6 a.2 23 [(0, .ref (Xd X 75)), (1, .int p1), (3, .ref (Xd X 72)), (4, .int a.1)] []) (fun a r1 h1 k1 k2 => w_X5_takeBundle_23 (x4 := a.1) (σ := a.2) C  hQ  k1 k2 h1)
  exact key n a hf
theorem w_X5_takeBundle_e {X : gX} {σ : sg} {p1 : Int32} {p2 : Int32} {r0 : sg} (C : gC X cX5_takeBundle 6 RX5 none rm_X5_takeBundle)  (hQ : gQ X (qV (XG X) r0)) (hf : f_X5_takeBundle σ p1 p2 = some r0) : G X 6 σ 0 [(0, .ref (Xd X 75)), (1, .int p1), (2, .int p2), (3, .ref (Xd X 72))] [] := by
  unfold f_X5_takeBundle at hf
  refine g_aload_n C 0 dX5_takeBundle_0 rfl ?_
  refine g_getr C 5 2 (137) (by decide) sh_75 rfl vc_5 (by decide) inXX5 wfl_171 dX5_takeBundle_1 ?_
  refine g_aload_n C 0 dX5_takeBundle_4 rfl ?_
  refine g_geti C 5 11 (by decide) sh_75 rfl vc_5 (by decide) inXX5 wfl_191 dX5_takeBundle_5 ?_
  refine g_iload_n C 2 dX5_takeBundle_8 rfl ?_
  obtain ⟨s9, h1, hf⟩ := g_bind hf
  refine g_iast C h1 dX5_takeBundle_9 ?_
  clear h1
  refine g_aload_n C 0 dX5_takeBundle_10 rfl ?_
  refine g_getr C 5 3 (138) (by decide) sh_75 rfl vc_5 (by decide) inXX5 wfl_173 dX5_takeBundle_11 ?_
  refine g_aload_n C 0 dX5_takeBundle_14 rfl ?_
  refine g_geti C 5 11 (by decide) sh_75 rfl vc_5 (by decide) inXX5 wfl_191 dX5_takeBundle_15 ?_
  refine g_iload_n C 1 dX5_takeBundle_18 rfl ?_
  obtain ⟨s19, h1, hf⟩ := g_bind hf
  refine g_iast C h1 dX5_takeBundle_19 ?_
  clear h1
  refine g_iconst C (v := 0) dX5_takeBundle_20 rfl ?_
  refine g_istore C (lv' := [(4, .int (0 : Int32)), (0, .ref (Xd X 75)), (1, .int p1), (2, .int p2), (3, .ref (Xd X 72))]) dX5_takeBundle_21 (by decide) rfl ?_
  refine g_sub [1, 2, 4, 0] rfl ?_
  exact wl_X5_takeBundle_23 (a := ((0 : Int32), s19)) C  hQ  hf
theorem c_X5_takeBundle (l : Launch) {Gw : gW} (hI : g_I Gw) {σ : sg} {p1 : Int32} {p2 : Int32} {r : sg}  (hf : f_X5_takeBundle σ p1 p2 = some r) : gM l Gw yX5_takeBundle cX5_takeBundle 6 none rm_X5_takeBundle [.ref (Gw.2.2 75), .int p1, .int p2, .ref (Gw.2.2 72)] σ (qV (Gw) r) := by
  refine g_met hI (by decide) (Nat.le_of_ble_eq_true rfl) (fun X h1 h2 C hQ => ?_)
  subst h1; subst h2
  exact w_X5_takeBundle_e C  hQ hf
theorem dX5_takeBlock_0 : decode cX5_takeBlock 0 = .ok (.aload_n 2, 1) := by decide +kernel
theorem dX5_takeBlock_1 : decode cX5_takeBlock 1 = .ok (.getfield 53, 3) := by decide +kernel
theorem dX5_takeBlock_4 : decode cX5_takeBlock 4 = .ok (.istore_n 3, 1) := by decide +kernel
theorem dX5_takeBlock_5 : decode cX5_takeBlock 5 = .ok (.iconst 0, 1) := by decide +kernel
theorem dX5_takeBlock_6 : decode cX5_takeBlock 6 = .ok (.istore 4, 2) := by decide +kernel
theorem dX5_takeBlock_8 : decode cX5_takeBlock 8 = .ok (.aload_n 0, 1) := by decide +kernel
theorem dX5_takeBlock_9 : decode cX5_takeBlock 9 = .ok (.getfield 32, 3) := by decide +kernel
theorem dX5_takeBlock_12 : decode cX5_takeBlock 12 = .ok (.iload_n 1, 1) := by decide +kernel
theorem dX5_takeBlock_13 : decode cX5_takeBlock 13 = .ok (.iconst 0, 1) := by decide +kernel
theorem dX5_takeBlock_14 : decode cX5_takeBlock 14 = .ok (.iastore, 1) := by decide +kernel
theorem dX5_takeBlock_15 : decode cX5_takeBlock 15 = .ok (.bipush 60, 2) := by decide +kernel
theorem dX5_takeBlock_17 : decode cX5_takeBlock 17 = .ok (.aload_n 0, 1) := by decide +kernel
theorem dX5_takeBlock_18 : decode cX5_takeBlock 18 = .ok (.getfield 49, 3) := by decide +kernel
theorem dX5_takeBlock_21 : decode cX5_takeBlock 21 = .ok (.isub, 1) := by decide +kernel
theorem dX5_takeBlock_22 : decode cX5_takeBlock 22 = .ok (.istore 5, 2) := by decide +kernel
theorem dX5_takeBlock_24 : decode cX5_takeBlock 24 = .ok (.iload 5, 2) := by decide +kernel
theorem dX5_takeBlock_26 : decode cX5_takeBlock 26 = .ok (.ifCond .le 73, 3) := by decide +kernel
theorem dX5_takeBlock_29 : decode cX5_takeBlock 29 = .ok (.iload_n 3, 1) := by decide +kernel
theorem dX5_takeBlock_30 : decode cX5_takeBlock 30 = .ok (.aload_n 2, 1) := by decide +kernel
theorem dX5_takeBlock_31 : decode cX5_takeBlock 31 = .ok (.getfield 58, 3) := by decide +kernel
theorem dX5_takeBlock_34 : decode cX5_takeBlock 34 = .ok (.if_icmp .ge 65, 3) := by decide +kernel
theorem dX5_takeBlock_37 : decode cX5_takeBlock 37 = .ok (.aload_n 2, 1) := by decide +kernel
theorem dX5_takeBlock_38 : decode cX5_takeBlock 38 = .ok (.iload_n 3, 1) := by decide +kernel
theorem dX5_takeBlock_39 : decode cX5_takeBlock 39 = .ok (.iload 4, 2) := by decide +kernel
theorem dX5_takeBlock_41 : decode cX5_takeBlock 41 = .ok (.invokevirtual 61, 3) := by decide +kernel
theorem dX5_takeBlock_44 : decode cX5_takeBlock 44 = .ok (.istore 6, 2) := by decide +kernel
theorem dX5_takeBlock_46 : decode cX5_takeBlock 46 = .ok (.aload_n 2, 1) := by decide +kernel
theorem dX5_takeBlock_47 : decode cX5_takeBlock 47 = .ok (.iload 6, 2) := by decide +kernel
theorem dX5_takeBlock_49 : decode cX5_takeBlock 49 = .ok (.iload_n 3, 1) := by decide +kernel
theorem dX5_takeBlock_50 : decode cX5_takeBlock 50 = .ok (.iload 4, 2) := by decide +kernel
theorem dX5_takeBlock_52 : decode cX5_takeBlock 52 = .ok (.invokevirtual 65, 3) := by decide +kernel
theorem dX5_takeBlock_55 : decode cX5_takeBlock 55 = .ok (.aload_n 2, 1) := by decide +kernel
theorem dX5_takeBlock_56 : decode cX5_takeBlock 56 = .ok (.getfield 69, 3) := by decide +kernel
theorem dX5_takeBlock_59 : decode cX5_takeBlock 59 = .ok (.iload_n 3, 1) := by decide +kernel
theorem dX5_takeBlock_60 : decode cX5_takeBlock 60 = .ok (.if_icmp .ne 14, 3) := by decide +kernel
theorem dX5_takeBlock_63 : decode cX5_takeBlock 63 = .ok (.aload_n 2, 1) := by decide +kernel
theorem dX5_takeBlock_64 : decode cX5_takeBlock 64 = .ok (.getfield 72, 3) := by decide +kernel
theorem dX5_takeBlock_67 : decode cX5_takeBlock 67 = .ok (.iload 4, 2) := by decide +kernel
theorem dX5_takeBlock_69 : decode cX5_takeBlock 69 = .ok (.if_icmp .ne 5, 3) := by decide +kernel
theorem dX5_takeBlock_72 : decode cX5_takeBlock 72 = .ok (.iconst 0, 1) := by decide +kernel
theorem dX5_takeBlock_73 : decode cX5_takeBlock 73 = .ok (.ireturn, 1) := by decide +kernel
theorem dX5_takeBlock_74 : decode cX5_takeBlock 74 = .ok (.aload_n 0, 1) := by decide +kernel
theorem dX5_takeBlock_75 : decode cX5_takeBlock 75 = .ok (.iload_n 1, 1) := by decide +kernel
theorem dX5_takeBlock_76 : decode cX5_takeBlock 76 = .ok (.iload 6, 2) := by decide +kernel
theorem dX5_takeBlock_78 : decode cX5_takeBlock 78 = .ok (.aload_n 2, 1) := by decide +kernel
theorem dX5_takeBlock_79 : decode cX5_takeBlock 79 = .ok (.invokevirtual 75, 3) := by decide +kernel
theorem dX5_takeBlock_82 : decode cX5_takeBlock 82 = .ok (.aload_n 2, 1) := by decide +kernel
theorem dX5_takeBlock_83 : decode cX5_takeBlock 83 = .ok (.getfield 69, 3) := by decide +kernel
theorem dX5_takeBlock_86 : decode cX5_takeBlock 86 = .ok (.istore_n 3, 1) := by decide +kernel
theorem dX5_takeBlock_87 : decode cX5_takeBlock 87 = .ok (.aload_n 2, 1) := by decide +kernel
theorem dX5_takeBlock_88 : decode cX5_takeBlock 88 = .ok (.getfield 72, 3) := by decide +kernel
theorem dX5_takeBlock_91 : decode cX5_takeBlock 91 = .ok (.istore 4, 2) := by decide +kernel
theorem dX5_takeBlock_93 : decode cX5_takeBlock 93 = .ok (.iinc 5 (-1), 3) := by decide +kernel
theorem dX5_takeBlock_96 : decode cX5_takeBlock 96 = .ok (.goto (-72), 3) := by decide +kernel
theorem dX5_takeBlock_99 : decode cX5_takeBlock 99 = .ok (.iload_n 3, 1) := by decide +kernel
theorem dX5_takeBlock_100 : decode cX5_takeBlock 100 = .ok (.aload_n 2, 1) := by decide +kernel
theorem dX5_takeBlock_101 : decode cX5_takeBlock 101 = .ok (.getfield 58, 3) := by decide +kernel
theorem dX5_takeBlock_104 : decode cX5_takeBlock 104 = .ok (.if_icmp .lt 7, 3) := by decide +kernel
theorem dX5_takeBlock_107 : decode cX5_takeBlock 107 = .ok (.iconst 1, 1) := by decide +kernel
theorem dX5_takeBlock_108 : decode cX5_takeBlock 108 = .ok (.goto 4, 3) := by decide +kernel
theorem dX5_takeBlock_111 : decode cX5_takeBlock 111 = .ok (.iconst 0, 1) := by decide +kernel
theorem dX5_takeBlock_112 : decode cX5_takeBlock 112 = .ok (.ireturn, 1) := by decide +kernel
abbrev rm_X5_takeBlock : Room := { frames := 5, cells := 0, slots := 0, locals := 157 }
theorem w_X5_takeBlock_99 {X : gX} {x3 : Int32} {σ : sg} {r0 : (Int32 × sg)} (C : gC X cX5_takeBlock 7 RX5 (some .boolean) rm_X5_takeBlock)  (hQ : gQ X (qI (XG X) r0.1 r0.2))  (hf : J_X5_takeBlock_99 x3 σ = some r0) : G X 7 σ 99 [(2, .ref (Xd X 72)), (3, .int x3)] [] := by
  unfold J_X5_takeBlock_99 at hf
  refine g_iload_n C 1 dX5_takeBlock_99 rfl ?_
  refine g_aload_n C 0 dX5_takeBlock_100 rfl ?_
  refine g_getiN C 2 5 (by decide) sh_72 rfl vc_2 (by decide) inXX2 wfn_136 dX5_takeBlock_101 ?_
  refine g_icmp_lt C 111 hf dX5_takeBlock_104 (by decide) (fun hf => ?_) (fun hf => ?_)
  · refine g_iconst C (v := 0) dX5_takeBlock_111 rfl ?_
    have e0 : r0 = ((0 : Int32), σ) := (Option.some.inj hf).symm
    exact g_iret C rfl hQ (by rw [e0]) rfl dX5_takeBlock_112
  · refine g_iconst C (v := 1) dX5_takeBlock_107 rfl ?_
    refine g_goto C 112 dX5_takeBlock_108 (by decide) ?_
    have e0 : r0 = ((1 : Int32), σ) := (Option.some.inj hf).symm
    exact g_iret C rfl hQ (by rw [e0]) rfl dX5_takeBlock_112
theorem w_X5_takeBlock_74 {X : gX} {p1 : Int32} {x5 : Int32} {x6 : Int32} {σ : sg} {r0 : (Int32 × sg)} {r1 : ((Int32 × Int32 × Int32 × sg) ⊕ (Int32 × sg))} (C : gC X cX5_takeBlock 7 RX5 (some .boolean) rm_X5_takeBlock)  (hQ : gQ X (qI (XG X) r0.1 r0.2)) (A1 : ∀ b, r1 = .inl b → G X 7 b.2.2.2 24 [(0, .ref (Xd X 75)), (1, .int p1), (2, .ref (Xd X 72)), (3, .int b.1), (4, .int b.2.1), (5, .int b.2.2.1)] []) (B1 : ∀ b, r1 = .inr b → b = r0) (hf : J_X5_takeBlock_74 p1 x5 x6 σ = some r1) : G X 7 σ 74 [(0, .ref (Xd X 75)), (1, .int p1), (2, .ref (Xd X 72)), (5, .int x5), (6, .int x6)] [] := by
  unfold J_X5_takeBlock_74 at hf
  refine g_aload_n C 0 dX5_takeBlock_74 rfl ?_
  refine g_iload_n C 1 dX5_takeBlock_75 rfl ?_
  refine g_iload C 4 dX5_takeBlock_76 rfl ?_
  refine g_aload_n C 2 dX5_takeBlock_78 rfl ?_
  obtain ⟨s79, h1, hf⟩ := g_bind hf
  refine g_callVv C 3 [.int p1, .int x6, .ref (Xd X 72)] (c_X5_takeBundle (Xl X) (gC_I C)  h1) ⟨wml_495, wim_497, wsp_4, win_7, wcd_498⟩ (by decide) sh_75 vc_5 rfl hd_X5_takeBundle ⟨rfl, rfl⟩ ⟨Nat.le_of_ble_eq_true rfl, Nat.le_of_ble_eq_true rfl⟩ rfl rfl (Nat.le_of_ble_eq_true rfl) dX5_takeBlock_79 ?_
  clear h1
  refine g_aload_n C 2 dX5_takeBlock_82 rfl ?_
  refine g_getiN C 2 6 (by decide) sh_72 rfl vc_2 (by decide) inXX2 wfn_139 dX5_takeBlock_83 ?_
  refine g_istore_n C (lv' := [(3, .int (s79 72 6)), (0, .ref (Xd X 75)), (1, .int p1), (2, .ref (Xd X 72)), (5, .int x5), (6, .int x6)]) dX5_takeBlock_86 (by decide) rfl ?_
  refine g_aload_n C 3 dX5_takeBlock_87 rfl ?_
  refine g_getiN C 2 7 (by decide) sh_72 rfl vc_2 (by decide) inXX2 wfn_142 dX5_takeBlock_88 ?_
  refine g_istore C (lv' := [(4, .int (s79 72 7)), (3, .int (s79 72 6)), (0, .ref (Xd X 75)), (1, .int p1), (2, .ref (Xd X 72)), (5, .int x5), (6, .int x6)]) dX5_takeBlock_91 (by decide) rfl ?_
  refine g_iinc C (v := x5 + (-1 : Int32)) (lv' := [(5, .int (x5 + (-1 : Int32))), (4, .int (s79 72 7)), (3, .int (s79 72 6)), (0, .ref (Xd X 75)), (1, .int p1), (2, .ref (Xd X 72)), (6, .int x6)]) 5 dX5_takeBlock_93 rfl rfl (by decide) rfl ?_
  refine g_goto C 24 dX5_takeBlock_96 (by decide) ?_
  refine g_sub [3, 4, 5, 2, 1, 0] rfl ?_
  exact A1 (s79 72 6, s79 72 7, x5 + (-1 : Int32), s79) (Option.some.inj hf).symm
theorem w_X5_takeBlock_24 {X : gX} {p1 : Int32} {x3 : Int32} {x4 : Int32} {x5 : Int32} {σ : sg} {r0 : (Int32 × sg)} {r1 : ((Int32 × Int32 × Int32 × sg) ⊕ (Int32 × sg))} (C : gC X cX5_takeBlock 7 RX5 (some .boolean) rm_X5_takeBlock)  (hQ : gQ X (qI (XG X) r0.1 r0.2)) (A1 : ∀ b, r1 = .inl b → G X 7 b.2.2.2 24 [(0, .ref (Xd X 75)), (1, .int p1), (2, .ref (Xd X 72)), (3, .int b.1), (4, .int b.2.1), (5, .int b.2.2.1)] []) (B1 : ∀ b, r1 = .inr b → b = r0) (hf : B_X5_takeBlock_24 p1 x3 x4 x5 σ = some r1) : G X 7 σ 24 [(0, .ref (Xd X 75)), (1, .int p1), (2, .ref (Xd X 72)), (3, .int x3), (4, .int x4), (5, .int x5)] [] := by
  unfold B_X5_takeBlock_24 at hf
  refine g_iload C 5 dX5_takeBlock_24 rfl ?_
  refine g_if_le C 99 hf dX5_takeBlock_26 (by decide) (fun hf => ?_) (fun hf => ?_)
  · refine g_sub [2, 3] rfl ?_
    obtain ⟨t, h1, hf⟩ := g_bind hf
    exact w_X5_takeBlock_99 C  hQ  (h1.trans (congrArg some ((B1 _ (Option.some.inj hf).symm).symm).symm))
  · refine g_iload_n C 3 dX5_takeBlock_29 rfl ?_
    refine g_aload_n C 2 dX5_takeBlock_30 rfl ?_
    refine g_getiN C 2 5 (by decide) sh_72 rfl vc_2 (by decide) inXX2 wfn_136 dX5_takeBlock_31 ?_
    refine g_icmp_ge C 99 hf dX5_takeBlock_34 (by decide) (fun hf => ?_) (fun hf => ?_)
    · refine g_sub [2, 3] rfl ?_
      obtain ⟨t, h1, hf⟩ := g_bind hf
      exact w_X5_takeBlock_99 C  hQ  (h1.trans (congrArg some ((B1 _ (Option.some.inj hf).symm).symm).symm))
    · refine g_aload_n C 2 dX5_takeBlock_37 rfl ?_
      refine g_iload_n C 3 dX5_takeBlock_38 rfl ?_
      refine g_iload C 4 dX5_takeBlock_39 rfl ?_
      obtain ⟨q41, h1, hf⟩ := g_bind hf
      refine g_callVi C 2 [.int x3, .int x4] (c_X2_chosenTemplate (Xl X) (gC_I C)  h1) ⟨wml_459, wim_460, wse_461, win_6, wcd_462⟩ (by decide) sh_72 vc_2 rfl hd_X2_chosenTemplate ⟨rfl, rfl⟩ ⟨Nat.le_of_ble_eq_true rfl, Nat.le_of_ble_eq_true rfl⟩ rfl rfl (Nat.le_of_ble_eq_true rfl) dX5_takeBlock_41 ?_
      clear h1
      refine g_istore C (lv' := [(6, .int q41.1), (0, .ref (Xd X 75)), (1, .int p1), (2, .ref (Xd X 72)), (3, .int x3), (4, .int x4), (5, .int x5)]) dX5_takeBlock_44 (by decide) rfl ?_
      refine g_aload_n C 3 dX5_takeBlock_46 rfl ?_
      refine g_iload C 0 dX5_takeBlock_47 rfl ?_
      refine g_iload_n C 4 dX5_takeBlock_49 rfl ?_
      refine g_iload C 5 dX5_takeBlock_50 rfl ?_
      obtain ⟨s52, h1, hf⟩ := g_bind hf
      refine g_callVv C 3 [.int q41.1, .int x3, .int x4] (c_X2_fill (Xl X) (gC_I C)  h1) ⟨wml_494, wim_464, wse_465, win_6, wcd_466⟩ (by decide) sh_72 vc_2 rfl hd_X2_fill ⟨rfl, rfl⟩ ⟨Nat.le_of_ble_eq_true rfl, Nat.le_of_ble_eq_true rfl⟩ rfl rfl (Nat.le_of_ble_eq_true rfl) dX5_takeBlock_52 ?_
      clear h1
      refine g_aload_n C 3 dX5_takeBlock_55 rfl ?_
      refine g_getiN C 2 6 (by decide) sh_72 rfl vc_2 (by decide) inXX2 wfn_139 dX5_takeBlock_56 ?_
      refine g_iload_n C 4 dX5_takeBlock_59 rfl ?_
      refine g_icmp_ne C 74 hf dX5_takeBlock_60 (by decide) (fun hf => ?_) (fun hf => ?_)
      · refine g_aload_n C 3 dX5_takeBlock_63 rfl ?_
        refine g_getiN C 2 7 (by decide) sh_72 rfl vc_2 (by decide) inXX2 wfn_142 dX5_takeBlock_64 ?_
        refine g_iload C 5 dX5_takeBlock_67 rfl ?_
        refine g_icmp_ne C 74 hf dX5_takeBlock_69 (by decide) (fun hf => ?_) (fun hf => ?_)
        · refine g_iconst C (v := 0) dX5_takeBlock_72 rfl ?_
          have e0 : r0 = ((0 : Int32), s52) := (B1 _ (Option.some.inj hf).symm).symm
          exact g_iret C rfl hQ (by rw [e0]) rfl dX5_takeBlock_73
        · refine g_sub [1, 2, 3, 6, 0] rfl ?_
          exact w_X5_takeBlock_74 C  hQ A1 B1 hf
      · refine g_sub [1, 2, 3, 6, 0] rfl ?_
        exact w_X5_takeBlock_74 C  hQ A1 B1 hf
theorem wl_X5_takeBlock_24 {X : gX} {p1 : Int32} {r0 : (Int32 × sg)} (C : gC X cX5_takeBlock 7 RX5 (some .boolean) rm_X5_takeBlock)  (hQ : gQ X (qI (XG X) r0.1 r0.2))  {n : Nat} {a : (Int32 × Int32 × Int32 × sg)} (hf : L_X5_takeBlock_24 p1 n a = some r0) : G X 7 a.2.2.2 24 [(0, .ref (Xd X 75)), (1, .int p1), (2, .ref (Xd X 72)), (3, .int a.1), (4, .int a.2.1), (5, .int a.2.2.1)] [] := by
  unfold L_X5_takeBlock_24 at hf
  have key := g_loop_ind (res := r0) (f := fun a => B_X5_takeBlock_24 p1 a.1 a.2.1 a.2.2.1 a.2.2.2) (P := fun a => G X 7 a.2.2.2 24 [(0, .ref (Xd X 75)), (1, .int p1), (2, .ref (Xd X 72)), (3, .int a.1), (4, .int a.2.1), (5, .int a.2.2.1)] []) (fun a r1 h1 k1 k2 => w_X5_takeBlock_24 (x3 := a.1) (x4 := a.2.1) (x5 := a.2.2.1) (σ := a.2.2.2) C  hQ  k1 k2 h1)
  exact key n a hf
theorem w_X5_takeBlock_e {X : gX} {σ : sg} {p1 : Int32} {r0 : (Int32 × sg)} (C : gC X cX5_takeBlock 7 RX5 (some .boolean) rm_X5_takeBlock)  (hQ : gQ X (qI (XG X) r0.1 r0.2)) (hf : f_X5_takeBlock σ p1 = some r0) : G X 7 σ 0 [(0, .ref (Xd X 75)), (1, .int p1), (2, .ref (Xd X 72))] [] := by
  unfold f_X5_takeBlock at hf
  refine g_aload_n C 2 dX5_takeBlock_0 rfl ?_
  refine g_getiN C 2 4 (by decide) sh_72 rfl vc_2 (by decide) inXX2 wfn_134 dX5_takeBlock_1 ?_
  refine g_istore_n C (lv' := [(3, .int (σ 72 4)), (0, .ref (Xd X 75)), (1, .int p1), (2, .ref (Xd X 72))]) dX5_takeBlock_4 (by decide) rfl ?_
  refine g_iconst C (v := 0) dX5_takeBlock_5 rfl ?_
  refine g_istore C (lv' := [(4, .int (0 : Int32)), (3, .int (σ 72 4)), (0, .ref (Xd X 75)), (1, .int p1), (2, .ref (Xd X 72))]) dX5_takeBlock_6 (by decide) rfl ?_
  refine g_aload_n C 2 dX5_takeBlock_8 rfl ?_
  refine g_getr C 5 7 (142) (by decide) sh_75 rfl vc_5 (by decide) inXX5 wfl_182 dX5_takeBlock_9 ?_
  refine g_iload_n C 3 dX5_takeBlock_12 rfl ?_
  refine g_iconst C (v := 0) dX5_takeBlock_13 rfl ?_
  obtain ⟨s14, h1, hf⟩ := g_bind hf
  refine g_iast C h1 dX5_takeBlock_14 ?_
  clear h1
  refine g_bipush C (v := 60) dX5_takeBlock_15 rfl ?_
  refine g_aload_n C 2 dX5_takeBlock_17 rfl ?_
  refine g_geti C 5 11 (by decide) sh_75 rfl vc_5 (by decide) inXX5 wfl_191 dX5_takeBlock_18 ?_
  refine g_isub C dX5_takeBlock_21 ?_
  refine g_istore C (lv' := [(5, .int ((60 : Int32) - (s14 75 11))), (4, .int (0 : Int32)), (3, .int (σ 72 4)), (0, .ref (Xd X 75)), (1, .int p1), (2, .ref (Xd X 72))]) dX5_takeBlock_22 (by decide) rfl ?_
  refine g_sub [3, 4, 5, 2, 1, 0] rfl ?_
  exact wl_X5_takeBlock_24 (a := (σ 72 4, (0 : Int32), (60 : Int32) - (s14 75 11), s14)) C  hQ  hf
theorem c_X5_takeBlock (l : Launch) {Gw : gW} (hI : g_I Gw) {σ : sg} {p1 : Int32} {r : (Int32 × sg)}  (hf : f_X5_takeBlock σ p1 = some r) : gM l Gw yX5_takeBlock cX5_takeBlock 7 (some .boolean) rm_X5_takeBlock [.ref (Gw.2.2 75), .int p1, .ref (Gw.2.2 72)] σ (qI (Gw) r.1 r.2) := by
  refine g_met hI (by decide) (Nat.le_of_ble_eq_true rfl) (fun X h1 h2 C hQ => ?_)
  subst h1; subst h2
  exact w_X5_takeBlock_e C  hQ hf
theorem dX5_filledSlots_0 : decode cX5_filledSlots 0 = .ok (.iconst 0, 1) := by decide +kernel
theorem dX5_filledSlots_1 : decode cX5_filledSlots 1 = .ok (.istore_n 2, 1) := by decide +kernel
theorem dX5_filledSlots_2 : decode cX5_filledSlots 2 = .ok (.iconst 0, 1) := by decide +kernel
theorem dX5_filledSlots_3 : decode cX5_filledSlots 3 = .ok (.istore_n 3, 1) := by decide +kernel
theorem dX5_filledSlots_4 : decode cX5_filledSlots 4 = .ok (.iload_n 3, 1) := by decide +kernel
theorem dX5_filledSlots_5 : decode cX5_filledSlots 5 = .ok (.iconst 3, 1) := by decide +kernel
theorem dX5_filledSlots_6 : decode cX5_filledSlots 6 = .ok (.if_icmp .ge 28, 3) := by decide +kernel
theorem dX5_filledSlots_9 : decode cX5_filledSlots 9 = .ok (.aload_n 0, 1) := by decide +kernel
theorem dX5_filledSlots_10 : decode cX5_filledSlots 10 = .ok (.getfield 11, 3) := by decide +kernel
theorem dX5_filledSlots_13 : decode cX5_filledSlots 13 = .ok (.iload_n 1, 1) := by decide +kernel
theorem dX5_filledSlots_14 : decode cX5_filledSlots 14 = .ok (.aaload, 1) := by decide +kernel
theorem dX5_filledSlots_15 : decode cX5_filledSlots 15 = .ok (.iload_n 3, 1) := by decide +kernel
theorem dX5_filledSlots_16 : decode cX5_filledSlots 16 = .ok (.iaload, 1) := by decide +kernel
theorem dX5_filledSlots_17 : decode cX5_filledSlots 17 = .ok (.bipush (-4), 2) := by decide +kernel
theorem dX5_filledSlots_19 : decode cX5_filledSlots 19 = .ok (.if_icmp .eq 9, 3) := by decide +kernel
theorem dX5_filledSlots_22 : decode cX5_filledSlots 22 = .ok (.iload_n 2, 1) := by decide +kernel
theorem dX5_filledSlots_23 : decode cX5_filledSlots 23 = .ok (.iconst 1, 1) := by decide +kernel
theorem dX5_filledSlots_24 : decode cX5_filledSlots 24 = .ok (.iload_n 3, 1) := by decide +kernel
theorem dX5_filledSlots_25 : decode cX5_filledSlots 25 = .ok (.ishl, 1) := by decide +kernel
theorem dX5_filledSlots_26 : decode cX5_filledSlots 26 = .ok (.ior, 1) := by decide +kernel
theorem dX5_filledSlots_27 : decode cX5_filledSlots 27 = .ok (.istore_n 2, 1) := by decide +kernel
theorem dX5_filledSlots_28 : decode cX5_filledSlots 28 = .ok (.iinc 3 1, 3) := by decide +kernel
theorem dX5_filledSlots_31 : decode cX5_filledSlots 31 = .ok (.goto (-27), 3) := by decide +kernel
theorem dX5_filledSlots_34 : decode cX5_filledSlots 34 = .ok (.iload_n 2, 1) := by decide +kernel
theorem dX5_filledSlots_35 : decode cX5_filledSlots 35 = .ok (.ireturn, 1) := by decide +kernel
abbrev rm_X5_filledSlots : Room := { frames := 0, cells := 0, slots := 0, locals := 0 }
theorem w_X5_filledSlots_28 {X : gX} {σ : sg} {p1 : Int32} {x2 : Int32} {x3 : Int32} {r0 : Int32} {r1 : ((Int32 × Int32) ⊕ Int32)} (C : gC X cX5_filledSlots 4 RX5 (some .int) rm_X5_filledSlots)  (hQ : gQ X (qI (XG X) r0 σ)) (A1 : ∀ b, r1 = .inl b → G X 4 σ 4 [(0, .ref (Xd X 75)), (1, .int p1), (2, .int b.1), (3, .int b.2)] []) (B1 : ∀ b, r1 = .inr b → b = r0) (hf : J_X5_filledSlots_28 σ p1 x2 x3 = some r1) : G X 4 σ 28 [(0, .ref (Xd X 75)), (1, .int p1), (2, .int x2), (3, .int x3)] [] := by
  unfold J_X5_filledSlots_28 at hf
  refine g_iinc C (v := x3 + (1 : Int32)) (lv' := [(3, .int (x3 + (1 : Int32))), (0, .ref (Xd X 75)), (1, .int p1), (2, .int x2)]) 3 dX5_filledSlots_28 rfl rfl (by decide) rfl ?_
  refine g_goto C 4 dX5_filledSlots_31 (by decide) ?_
  refine g_sub [1, 2, 3, 0] rfl ?_
  exact A1 (x2, x3 + (1 : Int32)) (Option.some.inj hf).symm
theorem w_X5_filledSlots_4 {X : gX} {σ : sg} {p1 : Int32} {x2 : Int32} {x3 : Int32} {r0 : Int32} {r1 : ((Int32 × Int32) ⊕ Int32)} (C : gC X cX5_filledSlots 4 RX5 (some .int) rm_X5_filledSlots)  (hQ : gQ X (qI (XG X) r0 σ)) (A1 : ∀ b, r1 = .inl b → G X 4 σ 4 [(0, .ref (Xd X 75)), (1, .int p1), (2, .int b.1), (3, .int b.2)] []) (B1 : ∀ b, r1 = .inr b → b = r0) (hf : B_X5_filledSlots_4 σ p1 x2 x3 = some r1) : G X 4 σ 4 [(0, .ref (Xd X 75)), (1, .int p1), (2, .int x2), (3, .int x3)] [] := by
  unfold B_X5_filledSlots_4 at hf
  refine g_iload_n C 3 dX5_filledSlots_4 rfl ?_
  refine g_iconst C (v := 3) dX5_filledSlots_5 rfl ?_
  refine g_icmp_ge C 34 hf dX5_filledSlots_6 (by decide) (fun hf => ?_) (fun hf => ?_)
  · refine g_iload_n C 2 dX5_filledSlots_34 rfl ?_
    have e0 : r0 = x2 := (B1 _ (Option.some.inj hf).symm).symm
    exact g_iret C rfl hQ (by rw [e0]) rfl dX5_filledSlots_35
  · refine g_aload_n C 0 dX5_filledSlots_9 rfl ?_
    refine g_getr C 5 1 (76) (by decide) sh_75 rfl vc_5 (by decide) inXX5 wfl_169 dX5_filledSlots_10 ?_
    refine g_iload_n C 1 dX5_filledSlots_13 rfl ?_
    obtain ⟨q14, h1, hf⟩ := g_bind hf
    refine g_aald C h1 dX5_filledSlots_14 ?_
    clear h1
    refine g_iload_n C 3 dX5_filledSlots_15 rfl ?_
    obtain ⟨v16, h1, hf⟩ := g_bind hf
    refine g_iald C h1 dX5_filledSlots_16 ?_
    clear h1
    refine g_bipush C (v := (-4)) dX5_filledSlots_17 rfl ?_
    refine g_icmp_eq C 28 hf dX5_filledSlots_19 (by decide) (fun hf => ?_) (fun hf => ?_)
    · exact w_X5_filledSlots_28 C  hQ A1 B1 hf
    · refine g_iload_n C 2 dX5_filledSlots_22 rfl ?_
      refine g_iconst C (v := 1) dX5_filledSlots_23 rfl ?_
      refine g_iload_n C 3 dX5_filledSlots_24 rfl ?_
      refine g_ishl C dX5_filledSlots_25 ?_
      refine g_ior C dX5_filledSlots_26 ?_
      refine g_istore_n C (lv' := [(2, .int (x2 ||| ((1 : Int32) <<< (x3 &&& 31)))), (0, .ref (Xd X 75)), (1, .int p1), (3, .int x3)]) dX5_filledSlots_27 (by decide) rfl ?_
      refine g_sub [1, 2, 0, 3] rfl ?_
      exact w_X5_filledSlots_28 C  hQ A1 B1 hf
theorem wl_X5_filledSlots_4 {X : gX} {σ : sg} {p1 : Int32} {r0 : Int32} (C : gC X cX5_filledSlots 4 RX5 (some .int) rm_X5_filledSlots)  (hQ : gQ X (qI (XG X) r0 σ))  {n : Nat} {a : (Int32 × Int32)} (hf : L_X5_filledSlots_4 σ p1 n a = some r0) : G X 4 σ 4 [(0, .ref (Xd X 75)), (1, .int p1), (2, .int a.1), (3, .int a.2)] [] := by
  unfold L_X5_filledSlots_4 at hf
  have key := g_loop_ind (res := r0) (f := fun a => B_X5_filledSlots_4 σ p1 a.1 a.2) (P := fun a => G X 4 σ 4 [(0, .ref (Xd X 75)), (1, .int p1), (2, .int a.1), (3, .int a.2)] []) (fun a r1 h1 k1 k2 => w_X5_filledSlots_4 (x2 := a.1) (x3 := a.2) C  hQ  k1 k2 h1)
  exact key n a hf
theorem w_X5_filledSlots_e {X : gX} {σ : sg} {p1 : Int32} {r0 : Int32} (C : gC X cX5_filledSlots 4 RX5 (some .int) rm_X5_filledSlots)  (hQ : gQ X (qI (XG X) r0 σ)) (hf : f_X5_filledSlots σ p1 = some r0) : G X 4 σ 0 [(0, .ref (Xd X 75)), (1, .int p1)] [] := by
  unfold f_X5_filledSlots at hf
  refine g_iconst C (v := 0) dX5_filledSlots_0 rfl ?_
  refine g_istore_n C (lv' := [(2, .int (0 : Int32)), (0, .ref (Xd X 75)), (1, .int p1)]) dX5_filledSlots_1 (by decide) rfl ?_
  refine g_iconst C (v := 0) dX5_filledSlots_2 rfl ?_
  refine g_istore_n C (lv' := [(3, .int (0 : Int32)), (2, .int (0 : Int32)), (0, .ref (Xd X 75)), (1, .int p1)]) dX5_filledSlots_3 (by decide) rfl ?_
  refine g_sub [2, 3, 1, 0] rfl ?_
  exact wl_X5_filledSlots_4 (a := ((0 : Int32), (0 : Int32))) C  hQ  hf
theorem c_X5_filledSlots (l : Launch) {Gw : gW} (hI : g_I Gw) {σ : sg} {p1 : Int32} {r : Int32}  (hf : f_X5_filledSlots σ p1 = some r) : gM l Gw yX5_filledSlots cX5_filledSlots 4 (some .int) rm_X5_filledSlots [.ref (Gw.2.2 75), .int p1] σ (qI (Gw) r σ) := by
  refine g_met hI (by decide) (Nat.le_of_ble_eq_true rfl) (fun X h1 h2 C hQ => ?_)
  subst h1; subst h2
  exact w_X5_filledSlots_e C  hQ hf
theorem dX5_writeNumber_0 : decode cX5_writeNumber 0 = .ok (.aload_n 0, 1) := by decide +kernel
theorem dX5_writeNumber_1 : decode cX5_writeNumber 1 = .ok (.getfield 38, 3) := by decide +kernel
theorem dX5_writeNumber_4 : decode cX5_writeNumber 4 = .ok (.aload_n 0, 1) := by decide +kernel
theorem dX5_writeNumber_5 : decode cX5_writeNumber 5 = .ok (.getfield 98, 3) := by decide +kernel
theorem dX5_writeNumber_8 : decode cX5_writeNumber 8 = .ok (.iload_n 1, 1) := by decide +kernel
theorem dX5_writeNumber_9 : decode cX5_writeNumber 9 = .ok (.iastore, 1) := by decide +kernel
theorem dX5_writeNumber_10 : decode cX5_writeNumber 10 = .ok (.aload_n 0, 1) := by decide +kernel
theorem dX5_writeNumber_11 : decode cX5_writeNumber 11 = .ok (.dup, 1) := by decide +kernel
theorem dX5_writeNumber_12 : decode cX5_writeNumber 12 = .ok (.getfield 98, 3) := by decide +kernel
theorem dX5_writeNumber_15 : decode cX5_writeNumber 15 = .ok (.iconst 1, 1) := by decide +kernel
theorem dX5_writeNumber_16 : decode cX5_writeNumber 16 = .ok (.iadd, 1) := by decide +kernel
theorem dX5_writeNumber_17 : decode cX5_writeNumber 17 = .ok (.putfield 98, 3) := by decide +kernel
theorem dX5_writeNumber_20 : decode cX5_writeNumber 20 = .ok (.return_, 1) := by decide +kernel
abbrev rm_X5_writeNumber : Room := { frames := 0, cells := 0, slots := 0, locals := 0 }
theorem w_X5_writeNumber_e {X : gX} {σ : sg} {p1 : Int32} {r0 : sg} (C : gC X cX5_writeNumber 2 RX5 none rm_X5_writeNumber)  (hQ : gQ X (qV (XG X) r0)) (hf : f_X5_writeNumber σ p1 = some r0) : G X 2 σ 0 [(0, .ref (Xd X 75)), (1, .int p1)] [] := by
  unfold f_X5_writeNumber at hf
  refine g_aload_n C 0 dX5_writeNumber_0 rfl ?_
  refine g_getr C 5 9 (144) (by decide) sh_75 rfl vc_5 (by decide) inXX5 wfl_187 dX5_writeNumber_1 ?_
  refine g_aload_n C 0 dX5_writeNumber_4 rfl ?_
  refine g_geti C 5 10 (by decide) sh_75 rfl vc_5 (by decide) inXX5 wfl_189 dX5_writeNumber_5 ?_
  refine g_iload_n C 1 dX5_writeNumber_8 rfl ?_
  obtain ⟨s9, h1, hf⟩ := g_bind hf
  refine g_iast C h1 dX5_writeNumber_9 ?_
  clear h1
  refine g_aload_n C 0 dX5_writeNumber_10 rfl ?_
  refine g_dup C dX5_writeNumber_11 rfl ?_
  refine g_geti C 5 10 (by decide) sh_75 rfl vc_5 (by decide) inXX5 wfl_189 dX5_writeNumber_12 ?_
  refine g_iconst C (v := 1) dX5_writeNumber_15 rfl ?_
  refine g_iadd C dX5_writeNumber_16 ?_
  obtain ⟨s17, h1, hf⟩ := g_bind hf
  refine g_put C 5 10 (by decide) sh_75 rfl (by decide) vc_5 (by decide) tyX5 tyX5_ok nmX5 inXX5 wfl_189 rfl (ty := .int) (by decide +kernel) rfl rfl dX5_writeNumber_17 ?_
  rw [Option.some.inj h1]
  clear h1
  have e0 : r0 = s17 := (Option.some.inj hf).symm
  exact g_vret C rfl hQ (by rw [e0]) dX5_writeNumber_20
theorem c_X5_writeNumber (l : Launch) {Gw : gW} (hI : g_I Gw) {σ : sg} {p1 : Int32} {r : sg}  (hf : f_X5_writeNumber σ p1 = some r) : gM l Gw yX5_writeNumber cX5_writeNumber 2 none rm_X5_writeNumber [.ref (Gw.2.2 75), .int p1] σ (qV (Gw) r) := by
  refine g_met hI (by decide) (Nat.le_of_ble_eq_true rfl) (fun X h1 h2 C hQ => ?_)
  subst h1; subst h2
  exact w_X5_writeNumber_e C  hQ hf
theorem dX5_writeBundle_0 : decode cX5_writeBundle 0 = .ok (.aload_n 0, 1) := by decide +kernel
theorem dX5_writeBundle_1 : decode cX5_writeBundle 1 = .ok (.sipush 1000, 3) := by decide +kernel
theorem dX5_writeBundle_4 : decode cX5_writeBundle 4 = .ok (.bipush 8, 2) := by decide +kernel
theorem dX5_writeBundle_6 : decode cX5_writeBundle 6 = .ok (.aload_n 0, 1) := by decide +kernel
theorem dX5_writeBundle_7 : decode cX5_writeBundle 7 = .ok (.getfield 16, 3) := by decide +kernel
theorem dX5_writeBundle_10 : decode cX5_writeBundle 10 = .ok (.iload_n 1, 1) := by decide +kernel
theorem dX5_writeBundle_11 : decode cX5_writeBundle 11 = .ok (.iaload, 1) := by decide +kernel
theorem dX5_writeBundle_12 : decode cX5_writeBundle 12 = .ok (.imul, 1) := by decide +kernel
theorem dX5_writeBundle_13 : decode cX5_writeBundle 13 = .ok (.iadd, 1) := by decide +kernel
theorem dX5_writeBundle_14 : decode cX5_writeBundle 14 = .ok (.aload_n 0, 1) := by decide +kernel
theorem dX5_writeBundle_15 : decode cX5_writeBundle 15 = .ok (.iload_n 1, 1) := by decide +kernel
theorem dX5_writeBundle_16 : decode cX5_writeBundle 16 = .ok (.invokevirtual 101, 3) := by decide +kernel
theorem dX5_writeBundle_19 : decode cX5_writeBundle 19 = .ok (.iadd, 1) := by decide +kernel
theorem dX5_writeBundle_20 : decode cX5_writeBundle 20 = .ok (.invokevirtual 108, 3) := by decide +kernel
theorem dX5_writeBundle_23 : decode cX5_writeBundle 23 = .ok (.iconst 0, 1) := by decide +kernel
theorem dX5_writeBundle_24 : decode cX5_writeBundle 24 = .ok (.istore_n 2, 1) := by decide +kernel
theorem dX5_writeBundle_25 : decode cX5_writeBundle 25 = .ok (.iload_n 2, 1) := by decide +kernel
theorem dX5_writeBundle_26 : decode cX5_writeBundle 26 = .ok (.iconst 3, 1) := by decide +kernel
theorem dX5_writeBundle_27 : decode cX5_writeBundle 27 = .ok (.if_icmp .ge 34, 3) := by decide +kernel
theorem dX5_writeBundle_30 : decode cX5_writeBundle 30 = .ok (.aload_n 0, 1) := by decide +kernel
theorem dX5_writeBundle_31 : decode cX5_writeBundle 31 = .ok (.getfield 11, 3) := by decide +kernel
theorem dX5_writeBundle_34 : decode cX5_writeBundle 34 = .ok (.iload_n 1, 1) := by decide +kernel
theorem dX5_writeBundle_35 : decode cX5_writeBundle 35 = .ok (.aaload, 1) := by decide +kernel
theorem dX5_writeBundle_36 : decode cX5_writeBundle 36 = .ok (.iload_n 2, 1) := by decide +kernel
theorem dX5_writeBundle_37 : decode cX5_writeBundle 37 = .ok (.iaload, 1) := by decide +kernel
theorem dX5_writeBundle_38 : decode cX5_writeBundle 38 = .ok (.bipush (-4), 2) := by decide +kernel
theorem dX5_writeBundle_40 : decode cX5_writeBundle 40 = .ok (.if_icmp .eq 15, 3) := by decide +kernel
theorem dX5_writeBundle_43 : decode cX5_writeBundle 43 = .ok (.aload_n 0, 1) := by decide +kernel
theorem dX5_writeBundle_44 : decode cX5_writeBundle 44 = .ok (.aload_n 0, 1) := by decide +kernel
theorem dX5_writeBundle_45 : decode cX5_writeBundle 45 = .ok (.getfield 11, 3) := by decide +kernel
theorem dX5_writeBundle_48 : decode cX5_writeBundle 48 = .ok (.iload_n 1, 1) := by decide +kernel
theorem dX5_writeBundle_49 : decode cX5_writeBundle 49 = .ok (.aaload, 1) := by decide +kernel
theorem dX5_writeBundle_50 : decode cX5_writeBundle 50 = .ok (.iload_n 2, 1) := by decide +kernel
theorem dX5_writeBundle_51 : decode cX5_writeBundle 51 = .ok (.iaload, 1) := by decide +kernel
theorem dX5_writeBundle_52 : decode cX5_writeBundle 52 = .ok (.invokevirtual 108, 3) := by decide +kernel
theorem dX5_writeBundle_55 : decode cX5_writeBundle 55 = .ok (.iinc 2 1, 3) := by decide +kernel
theorem dX5_writeBundle_58 : decode cX5_writeBundle 58 = .ok (.goto (-33), 3) := by decide +kernel
theorem dX5_writeBundle_61 : decode cX5_writeBundle 61 = .ok (.return_, 1) := by decide +kernel
abbrev rm_X5_writeBundle : Room := { frames := 1, cells := 0, slots := 0, locals := 23 }
theorem w_X5_writeBundle_55 {X : gX} {p1 : Int32} {x2 : Int32} {σ : sg} {r0 : sg} {r1 : ((Int32 × sg) ⊕ sg)} (C : gC X cX5_writeBundle 3 RX5 none rm_X5_writeBundle)  (hQ : gQ X (qV (XG X) r0)) (A1 : ∀ b, r1 = .inl b → G X 3 b.2 25 [(0, .ref (Xd X 75)), (1, .int p1), (2, .int b.1)] []) (B1 : ∀ b, r1 = .inr b → b = r0) (hf : J_X5_writeBundle_55 p1 x2 σ = some r1) : G X 3 σ 55 [(0, .ref (Xd X 75)), (1, .int p1), (2, .int x2)] [] := by
  unfold J_X5_writeBundle_55 at hf
  refine g_iinc C (v := x2 + (1 : Int32)) (lv' := [(2, .int (x2 + (1 : Int32))), (0, .ref (Xd X 75)), (1, .int p1)]) 2 dX5_writeBundle_55 rfl rfl (by decide) rfl ?_
  refine g_goto C 25 dX5_writeBundle_58 (by decide) ?_
  refine g_sub [1, 2, 0] rfl ?_
  exact A1 (x2 + (1 : Int32), σ) (Option.some.inj hf).symm
theorem w_X5_writeBundle_25 {X : gX} {p1 : Int32} {x2 : Int32} {σ : sg} {r0 : sg} {r1 : ((Int32 × sg) ⊕ sg)} (C : gC X cX5_writeBundle 3 RX5 none rm_X5_writeBundle)  (hQ : gQ X (qV (XG X) r0)) (A1 : ∀ b, r1 = .inl b → G X 3 b.2 25 [(0, .ref (Xd X 75)), (1, .int p1), (2, .int b.1)] []) (B1 : ∀ b, r1 = .inr b → b = r0) (hf : B_X5_writeBundle_25 p1 x2 σ = some r1) : G X 3 σ 25 [(0, .ref (Xd X 75)), (1, .int p1), (2, .int x2)] [] := by
  unfold B_X5_writeBundle_25 at hf
  refine g_iload_n C 2 dX5_writeBundle_25 rfl ?_
  refine g_iconst C (v := 3) dX5_writeBundle_26 rfl ?_
  refine g_icmp_ge C 61 hf dX5_writeBundle_27 (by decide) (fun hf => ?_) (fun hf => ?_)
  · have e0 : r0 = σ := (B1 _ (Option.some.inj hf).symm).symm
    exact g_vret C rfl hQ (by rw [e0]) dX5_writeBundle_61
  · refine g_aload_n C 0 dX5_writeBundle_30 rfl ?_
    refine g_getr C 5 1 (76) (by decide) sh_75 rfl vc_5 (by decide) inXX5 wfl_169 dX5_writeBundle_31 ?_
    refine g_iload_n C 1 dX5_writeBundle_34 rfl ?_
    obtain ⟨q35, h1, hf⟩ := g_bind hf
    refine g_aald C h1 dX5_writeBundle_35 ?_
    clear h1
    refine g_iload_n C 2 dX5_writeBundle_36 rfl ?_
    obtain ⟨v37, h1, hf⟩ := g_bind hf
    refine g_iald C h1 dX5_writeBundle_37 ?_
    clear h1
    refine g_bipush C (v := (-4)) dX5_writeBundle_38 rfl ?_
    refine g_icmp_eq C 55 hf dX5_writeBundle_40 (by decide) (fun hf => ?_) (fun hf => ?_)
    · exact w_X5_writeBundle_55 C  hQ A1 B1 hf
    · refine g_aload_n C 0 dX5_writeBundle_43 rfl ?_
      refine g_aload_n C 0 dX5_writeBundle_44 rfl ?_
      refine g_getr C 5 1 (76) (by decide) sh_75 rfl vc_5 (by decide) inXX5 wfl_169 dX5_writeBundle_45 ?_
      refine g_iload_n C 1 dX5_writeBundle_48 rfl ?_
      obtain ⟨q49, h1, hf⟩ := g_bind hf
      refine g_aald C h1 dX5_writeBundle_49 ?_
      clear h1
      refine g_iload_n C 2 dX5_writeBundle_50 rfl ?_
      obtain ⟨v51, h1, hf⟩ := g_bind hf
      refine g_iald C h1 dX5_writeBundle_51 ?_
      clear h1
      obtain ⟨s52, h1, hf⟩ := g_bind hf
      refine g_callVv C 1 [.int v51] (c_X5_writeNumber (Xl X) (gC_I C)  h1) ⟨wml_517, wim_519, wsp_7, win_7, wcd_520⟩ (by decide) sh_75 vc_5 rfl hd_X5_writeNumber ⟨rfl, rfl⟩ ⟨Nat.le_of_ble_eq_true rfl, Nat.le_of_ble_eq_true rfl⟩ rfl rfl (Nat.le_of_ble_eq_true rfl) dX5_writeBundle_52 ?_
      clear h1
      exact w_X5_writeBundle_55 C  hQ A1 B1 hf
theorem wl_X5_writeBundle_25 {X : gX} {p1 : Int32} {r0 : sg} (C : gC X cX5_writeBundle 3 RX5 none rm_X5_writeBundle)  (hQ : gQ X (qV (XG X) r0))  {n : Nat} {a : (Int32 × sg)} (hf : L_X5_writeBundle_25 p1 n a = some r0) : G X 3 a.2 25 [(0, .ref (Xd X 75)), (1, .int p1), (2, .int a.1)] [] := by
  unfold L_X5_writeBundle_25 at hf
  have key := g_loop_ind (res := r0) (f := fun a => B_X5_writeBundle_25 p1 a.1 a.2) (P := fun a => G X 3 a.2 25 [(0, .ref (Xd X 75)), (1, .int p1), (2, .int a.1)] []) (fun a r1 h1 k1 k2 => w_X5_writeBundle_25 (x2 := a.1) (σ := a.2) C  hQ  k1 k2 h1)
  exact key n a hf
theorem w_X5_writeBundle_e {X : gX} {σ : sg} {p1 : Int32} {r0 : sg} (C : gC X cX5_writeBundle 3 RX5 none rm_X5_writeBundle)  (hQ : gQ X (qV (XG X) r0)) (hf : f_X5_writeBundle σ p1 = some r0) : G X 3 σ 0 [(0, .ref (Xd X 75)), (1, .int p1)] [] := by
  unfold f_X5_writeBundle at hf
  refine g_aload_n C 0 dX5_writeBundle_0 rfl ?_
  refine g_sipush C (v := 1000) dX5_writeBundle_1 rfl ?_
  refine g_bipush C (v := 8) dX5_writeBundle_4 rfl ?_
  refine g_aload_n C 0 dX5_writeBundle_6 rfl ?_
  refine g_getr C 5 2 (137) (by decide) sh_75 rfl vc_5 (by decide) inXX5 wfl_171 dX5_writeBundle_7 ?_
  refine g_iload_n C 1 dX5_writeBundle_10 rfl ?_
  obtain ⟨v11, h1, hf⟩ := g_bind hf
  refine g_iald C h1 dX5_writeBundle_11 ?_
  clear h1
  refine g_imul C dX5_writeBundle_12 ?_
  refine g_iadd C dX5_writeBundle_13 ?_
  refine g_aload_n C 0 dX5_writeBundle_14 rfl ?_
  refine g_iload_n C 1 dX5_writeBundle_15 rfl ?_
  obtain ⟨v16, h1, hf⟩ := g_bind hf
  refine g_callVi C 1 [.int p1] (c_X5_filledSlots (Xl X) (gC_I C)  h1) ⟨wml_509, wim_511, wsp_5, win_7, wcd_512⟩ (by decide) sh_75 vc_5 rfl hd_X5_filledSlots ⟨rfl, rfl⟩ ⟨Nat.le_of_ble_eq_true rfl, Nat.le_of_ble_eq_true rfl⟩ rfl rfl (Nat.le_of_ble_eq_true rfl) dX5_writeBundle_16 ?_
  clear h1
  refine g_iadd C dX5_writeBundle_19 ?_
  obtain ⟨s20, h1, hf⟩ := g_bind hf
  refine g_callVv C 1 [.int (((1000 : Int32) + ((8 : Int32) * v11)) + v16)] (c_X5_writeNumber (Xl X) (gC_I C)  h1) ⟨wml_517, wim_519, wsp_7, win_7, wcd_520⟩ (by decide) sh_75 vc_5 rfl hd_X5_writeNumber ⟨rfl, rfl⟩ ⟨Nat.le_of_ble_eq_true rfl, Nat.le_of_ble_eq_true rfl⟩ rfl rfl (Nat.le_of_ble_eq_true rfl) dX5_writeBundle_20 ?_
  clear h1
  refine g_iconst C (v := 0) dX5_writeBundle_23 rfl ?_
  refine g_istore_n C (lv' := [(2, .int (0 : Int32)), (0, .ref (Xd X 75)), (1, .int p1)]) dX5_writeBundle_24 (by decide) rfl ?_
  refine g_sub [1, 2, 0] rfl ?_
  exact wl_X5_writeBundle_25 (a := ((0 : Int32), s20)) C  hQ  hf
theorem c_X5_writeBundle (l : Launch) {Gw : gW} (hI : g_I Gw) {σ : sg} {p1 : Int32} {r : sg}  (hf : f_X5_writeBundle σ p1 = some r) : gM l Gw yX5_writeBundle cX5_writeBundle 3 none rm_X5_writeBundle [.ref (Gw.2.2 75), .int p1] σ (qV (Gw) r) := by
  refine g_met hI (by decide) (Nat.le_of_ble_eq_true rfl) (fun X h1 h2 C hQ => ?_)
  subst h1; subst h2
  exact w_X5_writeBundle_e C  hQ hf
theorem dX5_writeCode_0 : decode cX5_writeCode 0 = .ok (.aload_n 0, 1) := by decide +kernel
theorem dX5_writeCode_1 : decode cX5_writeCode 1 = .ok (.iconst 0, 1) := by decide +kernel
theorem dX5_writeCode_2 : decode cX5_writeCode 2 = .ok (.putfield 98, 3) := by decide +kernel
theorem dX5_writeCode_5 : decode cX5_writeCode 5 = .ok (.iconst 0, 1) := by decide +kernel
theorem dX5_writeCode_6 : decode cX5_writeCode 6 = .ok (.istore_n 1, 1) := by decide +kernel
theorem dX5_writeCode_7 : decode cX5_writeCode 7 = .ok (.iload_n 1, 1) := by decide +kernel
theorem dX5_writeCode_8 : decode cX5_writeCode 8 = .ok (.aload_n 0, 1) := by decide +kernel
theorem dX5_writeCode_9 : decode cX5_writeCode 9 = .ok (.getfield 49, 3) := by decide +kernel
theorem dX5_writeCode_12 : decode cX5_writeCode 12 = .ok (.if_icmp .ge 108, 3) := by decide +kernel
theorem dX5_writeCode_15 : decode cX5_writeCode 15 = .ok (.iload_n 1, 1) := by decide +kernel
theorem dX5_writeCode_16 : decode cX5_writeCode 16 = .ok (.ifCond .eq 20, 3) := by decide +kernel
theorem dX5_writeCode_19 : decode cX5_writeCode 19 = .ok (.aload_n 0, 1) := by decide +kernel
theorem dX5_writeCode_20 : decode cX5_writeCode 20 = .ok (.getfield 20, 3) := by decide +kernel
theorem dX5_writeCode_23 : decode cX5_writeCode 23 = .ok (.iload_n 1, 1) := by decide +kernel
theorem dX5_writeCode_24 : decode cX5_writeCode 24 = .ok (.iaload, 1) := by decide +kernel
theorem dX5_writeCode_25 : decode cX5_writeCode 25 = .ok (.aload_n 0, 1) := by decide +kernel
theorem dX5_writeCode_26 : decode cX5_writeCode 26 = .ok (.getfield 20, 3) := by decide +kernel
theorem dX5_writeCode_29 : decode cX5_writeCode 29 = .ok (.iload_n 1, 1) := by decide +kernel
theorem dX5_writeCode_30 : decode cX5_writeCode 30 = .ok (.iconst 1, 1) := by decide +kernel
theorem dX5_writeCode_31 : decode cX5_writeCode 31 = .ok (.isub, 1) := by decide +kernel
theorem dX5_writeCode_32 : decode cX5_writeCode 32 = .ok (.iaload, 1) := by decide +kernel
theorem dX5_writeCode_33 : decode cX5_writeCode 33 = .ok (.if_icmp .eq 7, 3) := by decide +kernel
theorem dX5_writeCode_36 : decode cX5_writeCode 36 = .ok (.iconst 1, 1) := by decide +kernel
theorem dX5_writeCode_37 : decode cX5_writeCode 37 = .ok (.goto 4, 3) := by decide +kernel
theorem dX5_writeCode_40 : decode cX5_writeCode 40 = .ok (.iconst 0, 1) := by decide +kernel
theorem dX5_writeCode_41 : decode cX5_writeCode 41 = .ok (.istore_n 2, 1) := by decide +kernel
theorem dX5_writeCode_42 : decode cX5_writeCode 42 = .ok (.iload_n 2, 1) := by decide +kernel
theorem dX5_writeCode_43 : decode cX5_writeCode 43 = .ok (.ifCond .eq 18, 3) := by decide +kernel
theorem dX5_writeCode_46 : decode cX5_writeCode 46 = .ok (.aload_n 0, 1) := by decide +kernel
theorem dX5_writeCode_47 : decode cX5_writeCode 47 = .ok (.getfield 35, 3) := by decide +kernel
theorem dX5_writeCode_50 : decode cX5_writeCode 50 = .ok (.aload_n 0, 1) := by decide +kernel
theorem dX5_writeCode_51 : decode cX5_writeCode 51 = .ok (.getfield 20, 3) := by decide +kernel
theorem dX5_writeCode_54 : decode cX5_writeCode 54 = .ok (.iload_n 1, 1) := by decide +kernel
theorem dX5_writeCode_55 : decode cX5_writeCode 55 = .ok (.iaload, 1) := by decide +kernel
theorem dX5_writeCode_56 : decode cX5_writeCode 56 = .ok (.aload_n 0, 1) := by decide +kernel
theorem dX5_writeCode_57 : decode cX5_writeCode 57 = .ok (.getfield 98, 3) := by decide +kernel
theorem dX5_writeCode_60 : decode cX5_writeCode 60 = .ok (.iastore, 1) := by decide +kernel
theorem dX5_writeCode_61 : decode cX5_writeCode 61 = .ok (.aload_n 0, 1) := by decide +kernel
theorem dX5_writeCode_62 : decode cX5_writeCode 62 = .ok (.iload_n 1, 1) := by decide +kernel
theorem dX5_writeCode_63 : decode cX5_writeCode 63 = .ok (.invokevirtual 101, 3) := by decide +kernel
theorem dX5_writeCode_66 : decode cX5_writeCode 66 = .ok (.ifCond .eq 11, 3) := by decide +kernel
theorem dX5_writeCode_69 : decode cX5_writeCode 69 = .ok (.aload_n 0, 1) := by decide +kernel
theorem dX5_writeCode_70 : decode cX5_writeCode 70 = .ok (.iload_n 1, 1) := by decide +kernel
theorem dX5_writeCode_71 : decode cX5_writeCode 71 = .ok (.invokevirtual 104, 3) := by decide +kernel
theorem dX5_writeCode_74 : decode cX5_writeCode 74 = .ok (.goto 40, 3) := by decide +kernel
theorem dX5_writeCode_77 : decode cX5_writeCode 77 = .ok (.iload_n 2, 1) := by decide +kernel
theorem dX5_writeCode_78 : decode cX5_writeCode 78 = .ok (.ifCond .ne 31, 3) := by decide +kernel
theorem dX5_writeCode_81 : decode cX5_writeCode 81 = .ok (.aload_n 0, 1) := by decide +kernel
theorem dX5_writeCode_82 : decode cX5_writeCode 82 = .ok (.iload_n 1, 1) := by decide +kernel
theorem dX5_writeCode_83 : decode cX5_writeCode 83 = .ok (.iconst 1, 1) := by decide +kernel
theorem dX5_writeCode_84 : decode cX5_writeCode 84 = .ok (.isub, 1) := by decide +kernel
theorem dX5_writeCode_85 : decode cX5_writeCode 85 = .ok (.invokevirtual 101, 3) := by decide +kernel
theorem dX5_writeCode_88 : decode cX5_writeCode 88 = .ok (.ifCond .ne 21, 3) := by decide +kernel
theorem dX5_writeCode_91 : decode cX5_writeCode 91 = .ok (.aload_n 0, 1) := by decide +kernel
theorem dX5_writeCode_92 : decode cX5_writeCode 92 = .ok (.getfield 38, 3) := by decide +kernel
theorem dX5_writeCode_95 : decode cX5_writeCode 95 = .ok (.aload_n 0, 1) := by decide +kernel
theorem dX5_writeCode_96 : decode cX5_writeCode 96 = .ok (.getfield 98, 3) := by decide +kernel
theorem dX5_writeCode_99 : decode cX5_writeCode 99 = .ok (.iconst 1, 1) := by decide +kernel
theorem dX5_writeCode_100 : decode cX5_writeCode 100 = .ok (.isub, 1) := by decide +kernel
theorem dX5_writeCode_101 : decode cX5_writeCode 101 = .ok (.dup2, 1) := by decide +kernel
theorem dX5_writeCode_102 : decode cX5_writeCode 102 = .ok (.iaload, 1) := by decide +kernel
theorem dX5_writeCode_103 : decode cX5_writeCode 103 = .ok (.iconst 1, 1) := by decide +kernel
theorem dX5_writeCode_104 : decode cX5_writeCode 104 = .ok (.isub, 1) := by decide +kernel
theorem dX5_writeCode_105 : decode cX5_writeCode 105 = .ok (.iastore, 1) := by decide +kernel
theorem dX5_writeCode_106 : decode cX5_writeCode 106 = .ok (.goto 8, 3) := by decide +kernel
theorem dX5_writeCode_109 : decode cX5_writeCode 109 = .ok (.aload_n 0, 1) := by decide +kernel
theorem dX5_writeCode_110 : decode cX5_writeCode 110 = .ok (.iconst (-1), 1) := by decide +kernel
theorem dX5_writeCode_111 : decode cX5_writeCode 111 = .ok (.invokevirtual 108, 3) := by decide +kernel
theorem dX5_writeCode_114 : decode cX5_writeCode 114 = .ok (.iinc 1 1, 3) := by decide +kernel
theorem dX5_writeCode_117 : decode cX5_writeCode 117 = .ok (.goto (-110), 3) := by decide +kernel
theorem dX5_writeCode_120 : decode cX5_writeCode 120 = .ok (.return_, 1) := by decide +kernel
abbrev rm_X5_writeCode : Room := { frames := 2, cells := 0, slots := 0, locals := 45 }
theorem w_X5_writeCode_114 {X : gX} {x1 : Int32} {σ : sg} {r0 : sg} {r1 : ((Int32 × sg) ⊕ sg)} (C : gC X cX5_writeCode 3 RX5 none rm_X5_writeCode)  (hQ : gQ X (qV (XG X) r0)) (A1 : ∀ b, r1 = .inl b → G X 3 b.2 7 [(0, .ref (Xd X 75)), (1, .int b.1)] []) (B1 : ∀ b, r1 = .inr b → b = r0) (hf : J_X5_writeCode_114 x1 σ = some r1) : G X 3 σ 114 [(0, .ref (Xd X 75)), (1, .int x1)] [] := by
  unfold J_X5_writeCode_114 at hf
  refine g_iinc C (v := x1 + (1 : Int32)) (lv' := [(1, .int (x1 + (1 : Int32))), (0, .ref (Xd X 75))]) 1 dX5_writeCode_114 rfl rfl (by decide) rfl ?_
  refine g_goto C 7 dX5_writeCode_117 (by decide) ?_
  refine g_sub [1, 0] rfl ?_
  exact A1 (x1 + (1 : Int32), σ) (Option.some.inj hf).symm
theorem w_X5_writeCode_109 {X : gX} {x1 : Int32} {σ : sg} {r0 : sg} {r1 : ((Int32 × sg) ⊕ sg)} (C : gC X cX5_writeCode 3 RX5 none rm_X5_writeCode)  (hQ : gQ X (qV (XG X) r0)) (A1 : ∀ b, r1 = .inl b → G X 3 b.2 7 [(0, .ref (Xd X 75)), (1, .int b.1)] []) (B1 : ∀ b, r1 = .inr b → b = r0) (hf : J_X5_writeCode_109 x1 σ = some r1) : G X 3 σ 109 [(0, .ref (Xd X 75)), (1, .int x1)] [] := by
  unfold J_X5_writeCode_109 at hf
  refine g_aload_n C 0 dX5_writeCode_109 rfl ?_
  refine g_iconst C (v := (-1)) dX5_writeCode_110 rfl ?_
  obtain ⟨s111, h1, hf⟩ := g_bind hf
  refine g_callVv C 1 [.int (-1 : Int32)] (c_X5_writeNumber (Xl X) (gC_I C)  h1) ⟨wml_517, wim_519, wsp_7, win_7, wcd_520⟩ (by decide) sh_75 vc_5 rfl hd_X5_writeNumber ⟨rfl, rfl⟩ ⟨Nat.le_of_ble_eq_true rfl, Nat.le_of_ble_eq_true rfl⟩ rfl rfl (Nat.le_of_ble_eq_true rfl) dX5_writeCode_111 ?_
  clear h1
  exact w_X5_writeCode_114 C  hQ A1 B1 hf
theorem w_X5_writeCode_61 {X : gX} {x1 : Int32} {x2 : Int32} {σ : sg} {r0 : sg} {r1 : ((Int32 × sg) ⊕ sg)} (C : gC X cX5_writeCode 3 RX5 none rm_X5_writeCode)  (hQ : gQ X (qV (XG X) r0)) (A1 : ∀ b, r1 = .inl b → G X 3 b.2 7 [(0, .ref (Xd X 75)), (1, .int b.1)] []) (B1 : ∀ b, r1 = .inr b → b = r0) (hf : J_X5_writeCode_61 x1 x2 σ = some r1) : G X 3 σ 61 [(0, .ref (Xd X 75)), (1, .int x1), (2, .int x2)] [] := by
  unfold J_X5_writeCode_61 at hf
  refine g_aload_n C 0 dX5_writeCode_61 rfl ?_
  refine g_iload_n C 1 dX5_writeCode_62 rfl ?_
  obtain ⟨v63, h1, hf⟩ := g_bind hf
  refine g_callVi C 1 [.int x1] (c_X5_filledSlots (Xl X) (gC_I C)  h1) ⟨wml_509, wim_511, wsp_5, win_7, wcd_512⟩ (by decide) sh_75 vc_5 rfl hd_X5_filledSlots ⟨rfl, rfl⟩ ⟨Nat.le_of_ble_eq_true rfl, Nat.le_of_ble_eq_true rfl⟩ rfl rfl (Nat.le_of_ble_eq_true rfl) dX5_writeCode_63 ?_
  clear h1
  refine g_if_eq C 77 hf dX5_writeCode_66 (by decide) (fun hf => ?_) (fun hf => ?_)
  · refine g_iload_n C 2 dX5_writeCode_77 rfl ?_
    refine g_if_ne C 109 hf dX5_writeCode_78 (by decide) (fun hf => ?_) (fun hf => ?_)
    · refine g_aload_n C 0 dX5_writeCode_81 rfl ?_
      refine g_iload_n C 1 dX5_writeCode_82 rfl ?_
      refine g_iconst C (v := 1) dX5_writeCode_83 rfl ?_
      refine g_isub C dX5_writeCode_84 ?_
      obtain ⟨v85, h1, hf⟩ := g_bind hf
      refine g_callVi C 1 [.int (x1 - (1 : Int32))] (c_X5_filledSlots (Xl X) (gC_I C)  h1) ⟨wml_509, wim_511, wsp_5, win_7, wcd_512⟩ (by decide) sh_75 vc_5 rfl hd_X5_filledSlots ⟨rfl, rfl⟩ ⟨Nat.le_of_ble_eq_true rfl, Nat.le_of_ble_eq_true rfl⟩ rfl rfl (Nat.le_of_ble_eq_true rfl) dX5_writeCode_85 ?_
      clear h1
      refine g_if_ne C 109 hf dX5_writeCode_88 (by decide) (fun hf => ?_) (fun hf => ?_)
      · refine g_aload_n C 0 dX5_writeCode_91 rfl ?_
        refine g_getr C 5 9 (144) (by decide) sh_75 rfl vc_5 (by decide) inXX5 wfl_187 dX5_writeCode_92 ?_
        refine g_aload_n C 0 dX5_writeCode_95 rfl ?_
        refine g_geti C 5 10 (by decide) sh_75 rfl vc_5 (by decide) inXX5 wfl_189 dX5_writeCode_96 ?_
        refine g_iconst C (v := 1) dX5_writeCode_99 rfl ?_
        refine g_isub C dX5_writeCode_100 ?_
        refine g_dup2 C dX5_writeCode_101 rfl rfl ?_
        obtain ⟨v102, h1, hf⟩ := g_bind hf
        refine g_iald C h1 dX5_writeCode_102 ?_
        clear h1
        refine g_iconst C (v := 1) dX5_writeCode_103 rfl ?_
        refine g_isub C dX5_writeCode_104 ?_
        obtain ⟨s105, h1, hf⟩ := g_bind hf
        refine g_iast C h1 dX5_writeCode_105 ?_
        clear h1
        refine g_goto C 114 dX5_writeCode_106 (by decide) ?_
        refine g_sub [0, 1] rfl ?_
        exact w_X5_writeCode_114 C  hQ A1 B1 hf
      · refine g_sub [0, 1] rfl ?_
        exact w_X5_writeCode_109 C  hQ A1 B1 hf
    · refine g_sub [0, 1] rfl ?_
      exact w_X5_writeCode_109 C  hQ A1 B1 hf
  · refine g_aload_n C 0 dX5_writeCode_69 rfl ?_
    refine g_iload_n C 1 dX5_writeCode_70 rfl ?_
    obtain ⟨s71, h1, hf⟩ := g_bind hf
    refine g_callVv C 1 [.int x1] (c_X5_writeBundle (Xl X) (gC_I C)  h1) ⟨wml_513, wim_515, wsp_6, win_7, wcd_516⟩ (by decide) sh_75 vc_5 rfl hd_X5_writeBundle ⟨rfl, rfl⟩ ⟨Nat.le_of_ble_eq_true rfl, Nat.le_of_ble_eq_true rfl⟩ rfl rfl (Nat.le_of_ble_eq_true rfl) dX5_writeCode_71 ?_
    clear h1
    refine g_goto C 114 dX5_writeCode_74 (by decide) ?_
    refine g_sub [0, 1] rfl ?_
    exact w_X5_writeCode_114 C  hQ A1 B1 hf
theorem w_X5_writeCode_41 {X : gX} {x1 : Int32} {t0 : Int32} {σ : sg} {r0 : sg} {r1 : ((Int32 × sg) ⊕ sg)} (C : gC X cX5_writeCode 3 RX5 none rm_X5_writeCode)  (hQ : gQ X (qV (XG X) r0)) (A1 : ∀ b, r1 = .inl b → G X 3 b.2 7 [(0, .ref (Xd X 75)), (1, .int b.1)] []) (B1 : ∀ b, r1 = .inr b → b = r0) (hf : J_X5_writeCode_41 x1 t0 σ = some r1) : G X 3 σ 41 [(0, .ref (Xd X 75)), (1, .int x1)] [.int t0] := by
  unfold J_X5_writeCode_41 at hf
  refine g_istore_n C (lv' := [(2, .int t0), (0, .ref (Xd X 75)), (1, .int x1)]) dX5_writeCode_41 (by decide) rfl ?_
  refine g_iload_n C 0 dX5_writeCode_42 rfl ?_
  refine g_if_eq C 61 hf dX5_writeCode_43 (by decide) (fun hf => ?_) (fun hf => ?_)
  · refine g_sub [1, 2, 0] rfl ?_
    exact w_X5_writeCode_61 C  hQ A1 B1 hf
  · refine g_aload_n C 1 dX5_writeCode_46 rfl ?_
    refine g_getr C 5 8 (143) (by decide) sh_75 rfl vc_5 (by decide) inXX5 wfl_185 dX5_writeCode_47 ?_
    refine g_aload_n C 1 dX5_writeCode_50 rfl ?_
    refine g_getr C 5 3 (138) (by decide) sh_75 rfl vc_5 (by decide) inXX5 wfl_173 dX5_writeCode_51 ?_
    refine g_iload_n C 2 dX5_writeCode_54 rfl ?_
    obtain ⟨v55, h1, hf⟩ := g_bind hf
    refine g_iald C h1 dX5_writeCode_55 ?_
    clear h1
    refine g_aload_n C 1 dX5_writeCode_56 rfl ?_
    refine g_geti C 5 10 (by decide) sh_75 rfl vc_5 (by decide) inXX5 wfl_189 dX5_writeCode_57 ?_
    obtain ⟨s60, h1, hf⟩ := g_bind hf
    refine g_iast C h1 dX5_writeCode_60 ?_
    clear h1
    refine g_sub [1, 2, 0] rfl ?_
    exact w_X5_writeCode_61 C  hQ A1 B1 hf
theorem w_X5_writeCode_36 {X : gX} {x1 : Int32} {σ : sg} {r0 : sg} {r1 : ((Int32 × sg) ⊕ sg)} (C : gC X cX5_writeCode 3 RX5 none rm_X5_writeCode)  (hQ : gQ X (qV (XG X) r0)) (A1 : ∀ b, r1 = .inl b → G X 3 b.2 7 [(0, .ref (Xd X 75)), (1, .int b.1)] []) (B1 : ∀ b, r1 = .inr b → b = r0) (hf : J_X5_writeCode_36 x1 σ = some r1) : G X 3 σ 36 [(0, .ref (Xd X 75)), (1, .int x1)] [] := by
  unfold J_X5_writeCode_36 at hf
  refine g_iconst C (v := 1) dX5_writeCode_36 rfl ?_
  refine g_goto C 41 dX5_writeCode_37 (by decide) ?_
  exact w_X5_writeCode_41 C  hQ A1 B1 hf
theorem w_X5_writeCode_7 {X : gX} {x1 : Int32} {σ : sg} {r0 : sg} {r1 : ((Int32 × sg) ⊕ sg)} (C : gC X cX5_writeCode 3 RX5 none rm_X5_writeCode)  (hQ : gQ X (qV (XG X) r0)) (A1 : ∀ b, r1 = .inl b → G X 3 b.2 7 [(0, .ref (Xd X 75)), (1, .int b.1)] []) (B1 : ∀ b, r1 = .inr b → b = r0) (hf : B_X5_writeCode_7 x1 σ = some r1) : G X 3 σ 7 [(0, .ref (Xd X 75)), (1, .int x1)] [] := by
  unfold B_X5_writeCode_7 at hf
  refine g_iload_n C 1 dX5_writeCode_7 rfl ?_
  refine g_aload_n C 0 dX5_writeCode_8 rfl ?_
  refine g_geti C 5 11 (by decide) sh_75 rfl vc_5 (by decide) inXX5 wfl_191 dX5_writeCode_9 ?_
  refine g_icmp_ge C 120 hf dX5_writeCode_12 (by decide) (fun hf => ?_) (fun hf => ?_)
  · have e0 : r0 = σ := (B1 _ (Option.some.inj hf).symm).symm
    exact g_vret C rfl hQ (by rw [e0]) dX5_writeCode_120
  · refine g_iload_n C 1 dX5_writeCode_15 rfl ?_
    refine g_if_eq C 36 hf dX5_writeCode_16 (by decide) (fun hf => ?_) (fun hf => ?_)
    · exact w_X5_writeCode_36 C  hQ A1 B1 hf
    · refine g_aload_n C 0 dX5_writeCode_19 rfl ?_
      refine g_getr C 5 3 (138) (by decide) sh_75 rfl vc_5 (by decide) inXX5 wfl_173 dX5_writeCode_20 ?_
      refine g_iload_n C 1 dX5_writeCode_23 rfl ?_
      obtain ⟨v24, h1, hf⟩ := g_bind hf
      refine g_iald C h1 dX5_writeCode_24 ?_
      clear h1
      refine g_aload_n C 0 dX5_writeCode_25 rfl ?_
      refine g_getr C 5 3 (138) (by decide) sh_75 rfl vc_5 (by decide) inXX5 wfl_173 dX5_writeCode_26 ?_
      refine g_iload_n C 1 dX5_writeCode_29 rfl ?_
      refine g_iconst C (v := 1) dX5_writeCode_30 rfl ?_
      refine g_isub C dX5_writeCode_31 ?_
      obtain ⟨v32, h1, hf⟩ := g_bind hf
      refine g_iald C h1 dX5_writeCode_32 ?_
      clear h1
      refine g_icmp_eq C 40 hf dX5_writeCode_33 (by decide) (fun hf => ?_) (fun hf => ?_)
      · refine g_iconst C (v := 0) dX5_writeCode_40 rfl ?_
        exact w_X5_writeCode_41 C  hQ A1 B1 hf
      · exact w_X5_writeCode_36 C  hQ A1 B1 hf
theorem wl_X5_writeCode_7 {X : gX}  {r0 : sg} (C : gC X cX5_writeCode 3 RX5 none rm_X5_writeCode)  (hQ : gQ X (qV (XG X) r0))  {n : Nat} {a : (Int32 × sg)} (hf : L_X5_writeCode_7  n a = some r0) : G X 3 a.2 7 [(0, .ref (Xd X 75)), (1, .int a.1)] [] := by
  unfold L_X5_writeCode_7 at hf
  have key := g_loop_ind (res := r0) (f := fun a => B_X5_writeCode_7 a.1 a.2) (P := fun a => G X 3 a.2 7 [(0, .ref (Xd X 75)), (1, .int a.1)] []) (fun a r1 h1 k1 k2 => w_X5_writeCode_7 (x1 := a.1) (σ := a.2) C  hQ  k1 k2 h1)
  exact key n a hf
theorem w_X5_writeCode_e {X : gX} {σ : sg}  {r0 : sg} (C : gC X cX5_writeCode 3 RX5 none rm_X5_writeCode)  (hQ : gQ X (qV (XG X) r0)) (hf : f_X5_writeCode σ = some r0) : G X 3 σ 0 [(0, .ref (Xd X 75))] [] := by
  unfold f_X5_writeCode at hf
  refine g_aload_n C 0 dX5_writeCode_0 rfl ?_
  refine g_iconst C (v := 0) dX5_writeCode_1 rfl ?_
  obtain ⟨s2, h1, hf⟩ := g_bind hf
  refine g_put C 5 10 (by decide) sh_75 rfl (by decide) vc_5 (by decide) tyX5 tyX5_ok nmX5 inXX5 wfl_189 rfl (ty := .int) (by decide +kernel) rfl rfl dX5_writeCode_2 ?_
  rw [Option.some.inj h1]
  clear h1
  refine g_iconst C (v := 0) dX5_writeCode_5 rfl ?_
  refine g_istore_n C (lv' := [(1, .int (0 : Int32)), (0, .ref (Xd X 75))]) dX5_writeCode_6 (by decide) rfl ?_
  refine g_sub [1, 0] rfl ?_
  exact wl_X5_writeCode_7 (a := ((0 : Int32), s2)) C  hQ  hf
theorem c_X5_writeCode (l : Launch) {Gw : gW} (hI : g_I Gw) {σ : sg}  {r : sg}  (hf : f_X5_writeCode σ = some r) : gM l Gw yX5_writeCode cX5_writeCode 3 none rm_X5_writeCode [.ref (Gw.2.2 75)] σ (qV (Gw) r) := by
  refine g_met hI (by decide) (Nat.le_of_ble_eq_true rfl) (fun X h1 h2 C hQ => ?_)
  subst h1; subst h2
  exact w_X5_writeCode_e C  hQ hf
theorem dX6_isRegister_0 : decode cX6_isRegister 0 = .ok (.iload_n 0, 1) := by decide +kernel
theorem dX6_isRegister_1 : decode cX6_isRegister 1 = .ok (.ifCond .lt 13, 3) := by decide +kernel
theorem dX6_isRegister_4 : decode cX6_isRegister 4 = .ok (.iload_n 0, 1) := by decide +kernel
theorem dX6_isRegister_5 : decode cX6_isRegister 5 = .ok (.bipush 8, 2) := by decide +kernel
theorem dX6_isRegister_7 : decode cX6_isRegister 7 = .ok (.if_icmp .ge 7, 3) := by decide +kernel
theorem dX6_isRegister_10 : decode cX6_isRegister 10 = .ok (.iconst 1, 1) := by decide +kernel
theorem dX6_isRegister_11 : decode cX6_isRegister 11 = .ok (.goto 4, 3) := by decide +kernel
theorem dX6_isRegister_14 : decode cX6_isRegister 14 = .ok (.iconst 0, 1) := by decide +kernel
theorem dX6_isRegister_15 : decode cX6_isRegister 15 = .ok (.ireturn, 1) := by decide +kernel
abbrev rm_X6_isRegister : Room := { frames := 0, cells := 0, slots := 0, locals := 0 }
theorem w_X6_isRegister_e {X : gX} {σ : sg} {p0 : Int32} {r0 : Int32} (C : gC X cX6_isRegister 1 RX6 (some .boolean) rm_X6_isRegister)  (hQ : gQ X (qI (XG X) r0 σ)) (hf : f_X6_isRegister σ p0 = some r0) : G X 1 σ 0 [(0, .int p0)] [] := by
  unfold f_X6_isRegister at hf
  refine g_iload_n C 0 dX6_isRegister_0 rfl ?_
  refine g_if_lt C 14 hf dX6_isRegister_1 (by decide) (fun hf => ?_) (fun hf => ?_)
  · refine g_iconst C (v := 0) dX6_isRegister_14 rfl ?_
    have e0 : r0 = (0 : Int32) := (Option.some.inj hf).symm
    exact g_iret C rfl hQ (by rw [e0]) rfl dX6_isRegister_15
  · refine g_iload_n C 0 dX6_isRegister_4 rfl ?_
    refine g_bipush C (v := 8) dX6_isRegister_5 rfl ?_
    refine g_icmp_ge C 14 hf dX6_isRegister_7 (by decide) (fun hf => ?_) (fun hf => ?_)
    · refine g_iconst C (v := 0) dX6_isRegister_14 rfl ?_
      have e0 : r0 = (0 : Int32) := (Option.some.inj hf).symm
      exact g_iret C rfl hQ (by rw [e0]) rfl dX6_isRegister_15
    · refine g_iconst C (v := 1) dX6_isRegister_10 rfl ?_
      refine g_goto C 15 dX6_isRegister_11 (by decide) ?_
      have e0 : r0 = (1 : Int32) := (Option.some.inj hf).symm
      exact g_iret C rfl hQ (by rw [e0]) rfl dX6_isRegister_15
theorem c_X6_isRegister (l : Launch) {Gw : gW} (hI : g_I Gw) {σ : sg} {p0 : Int32} {r : Int32}  (hf : f_X6_isRegister σ p0 = some r) : gM l Gw yX6_isRegister cX6_isRegister 1 (some .boolean) rm_X6_isRegister [.int p0] σ (qI (Gw) r σ) := by
  refine g_met hI (by decide) (Nat.le_of_ble_eq_true rfl) (fun X h1 h2 C hQ => ?_)
  subst h1; subst h2
  exact w_X6_isRegister_e C  hQ hf
theorem dX6_isTarget_0 : decode cX6_isTarget 0 = .ok (.iload_n 0, 1) := by decide +kernel
theorem dX6_isTarget_1 : decode cX6_isTarget 1 = .ok (.ifCond .lt 13, 3) := by decide +kernel
theorem dX6_isTarget_4 : decode cX6_isTarget 4 = .ok (.iload_n 0, 1) := by decide +kernel
theorem dX6_isTarget_5 : decode cX6_isTarget 5 = .ok (.bipush 40, 2) := by decide +kernel
theorem dX6_isTarget_7 : decode cX6_isTarget 7 = .ok (.if_icmp .ge 7, 3) := by decide +kernel
theorem dX6_isTarget_10 : decode cX6_isTarget 10 = .ok (.iconst 1, 1) := by decide +kernel
theorem dX6_isTarget_11 : decode cX6_isTarget 11 = .ok (.goto 4, 3) := by decide +kernel
theorem dX6_isTarget_14 : decode cX6_isTarget 14 = .ok (.iconst 0, 1) := by decide +kernel
theorem dX6_isTarget_15 : decode cX6_isTarget 15 = .ok (.ireturn, 1) := by decide +kernel
abbrev rm_X6_isTarget : Room := { frames := 0, cells := 0, slots := 0, locals := 0 }
theorem w_X6_isTarget_e {X : gX} {σ : sg} {p0 : Int32} {r0 : Int32} (C : gC X cX6_isTarget 1 RX6 (some .boolean) rm_X6_isTarget)  (hQ : gQ X (qI (XG X) r0 σ)) (hf : f_X6_isTarget σ p0 = some r0) : G X 1 σ 0 [(0, .int p0)] [] := by
  unfold f_X6_isTarget at hf
  refine g_iload_n C 0 dX6_isTarget_0 rfl ?_
  refine g_if_lt C 14 hf dX6_isTarget_1 (by decide) (fun hf => ?_) (fun hf => ?_)
  · refine g_iconst C (v := 0) dX6_isTarget_14 rfl ?_
    have e0 : r0 = (0 : Int32) := (Option.some.inj hf).symm
    exact g_iret C rfl hQ (by rw [e0]) rfl dX6_isTarget_15
  · refine g_iload_n C 0 dX6_isTarget_4 rfl ?_
    refine g_bipush C (v := 40) dX6_isTarget_5 rfl ?_
    refine g_icmp_ge C 14 hf dX6_isTarget_7 (by decide) (fun hf => ?_) (fun hf => ?_)
    · refine g_iconst C (v := 0) dX6_isTarget_14 rfl ?_
      have e0 : r0 = (0 : Int32) := (Option.some.inj hf).symm
      exact g_iret C rfl hQ (by rw [e0]) rfl dX6_isTarget_15
    · refine g_iconst C (v := 1) dX6_isTarget_10 rfl ?_
      refine g_goto C 15 dX6_isTarget_11 (by decide) ?_
      have e0 : r0 = (1 : Int32) := (Option.some.inj hf).symm
      exact g_iret C rfl hQ (by rw [e0]) rfl dX6_isTarget_15
theorem c_X6_isTarget (l : Launch) {Gw : gW} (hI : g_I Gw) {σ : sg} {p0 : Int32} {r : Int32}  (hf : f_X6_isTarget σ p0 = some r) : gM l Gw yX6_isTarget cX6_isTarget 1 (some .boolean) rm_X6_isTarget [.int p0] σ (qI (Gw) r σ) := by
  refine g_met hI (by decide) (Nat.le_of_ble_eq_true rfl) (fun X h1 h2 C hQ => ?_)
  subst h1; subst h2
  exact w_X6_isTarget_e C  hQ hf
theorem dX6_isCalculation_0 : decode cX6_isCalculation 0 = .ok (.iload_n 0, 1) := by decide +kernel
theorem dX6_isCalculation_1 : decode cX6_isCalculation 1 = .ok (.iconst 1, 1) := by decide +kernel
theorem dX6_isCalculation_2 : decode cX6_isCalculation 2 = .ok (.if_icmp .lt 13, 3) := by decide +kernel
theorem dX6_isCalculation_5 : decode cX6_isCalculation 5 = .ok (.iload_n 0, 1) := by decide +kernel
theorem dX6_isCalculation_6 : decode cX6_isCalculation 6 = .ok (.bipush 7, 2) := by decide +kernel
theorem dX6_isCalculation_8 : decode cX6_isCalculation 8 = .ok (.if_icmp .gt 7, 3) := by decide +kernel
theorem dX6_isCalculation_11 : decode cX6_isCalculation 11 = .ok (.iconst 1, 1) := by decide +kernel
theorem dX6_isCalculation_12 : decode cX6_isCalculation 12 = .ok (.goto 4, 3) := by decide +kernel
theorem dX6_isCalculation_15 : decode cX6_isCalculation 15 = .ok (.iconst 0, 1) := by decide +kernel
theorem dX6_isCalculation_16 : decode cX6_isCalculation 16 = .ok (.ireturn, 1) := by decide +kernel
abbrev rm_X6_isCalculation : Room := { frames := 0, cells := 0, slots := 0, locals := 0 }
theorem w_X6_isCalculation_e {X : gX} {σ : sg} {p0 : Int32} {r0 : Int32} (C : gC X cX6_isCalculation 1 RX6 (some .boolean) rm_X6_isCalculation)  (hQ : gQ X (qI (XG X) r0 σ)) (hf : f_X6_isCalculation σ p0 = some r0) : G X 1 σ 0 [(0, .int p0)] [] := by
  unfold f_X6_isCalculation at hf
  refine g_iload_n C 0 dX6_isCalculation_0 rfl ?_
  refine g_iconst C (v := 1) dX6_isCalculation_1 rfl ?_
  refine g_icmp_lt C 15 hf dX6_isCalculation_2 (by decide) (fun hf => ?_) (fun hf => ?_)
  · refine g_iconst C (v := 0) dX6_isCalculation_15 rfl ?_
    have e0 : r0 = (0 : Int32) := (Option.some.inj hf).symm
    exact g_iret C rfl hQ (by rw [e0]) rfl dX6_isCalculation_16
  · refine g_iload_n C 0 dX6_isCalculation_5 rfl ?_
    refine g_bipush C (v := 7) dX6_isCalculation_6 rfl ?_
    refine g_icmp_gt C 15 hf dX6_isCalculation_8 (by decide) (fun hf => ?_) (fun hf => ?_)
    · refine g_iconst C (v := 0) dX6_isCalculation_15 rfl ?_
      have e0 : r0 = (0 : Int32) := (Option.some.inj hf).symm
      exact g_iret C rfl hQ (by rw [e0]) rfl dX6_isCalculation_16
    · refine g_iconst C (v := 1) dX6_isCalculation_11 rfl ?_
      refine g_goto C 16 dX6_isCalculation_12 (by decide) ?_
      have e0 : r0 = (1 : Int32) := (Option.some.inj hf).symm
      exact g_iret C rfl hQ (by rw [e0]) rfl dX6_isCalculation_16
theorem c_X6_isCalculation (l : Launch) {Gw : gW} (hI : g_I Gw) {σ : sg} {p0 : Int32} {r : Int32}  (hf : f_X6_isCalculation σ p0 = some r) : gM l Gw yX6_isCalculation cX6_isCalculation 1 (some .boolean) rm_X6_isCalculation [.int p0] σ (qI (Gw) r σ) := by
  refine g_met hI (by decide) (Nat.le_of_ble_eq_true rfl) (fun X h1 h2 C hQ => ?_)
  subst h1; subst h2
  exact w_X6_isCalculation_e C  hQ hf
theorem dX6_isInstruction_0 : decode cX6_isInstruction 0 = .ok (.iload_n 0, 1) := by decide +kernel
theorem dX6_isInstruction_1 : decode cX6_isInstruction 1 = .ok (.tableswitch 209 0 12 #[67, 209, 209, 209, 209, 209, 209, 209, 98, 122, 146, 167, 191], 67) := by decide +kernel
theorem dX6_isInstruction_68 : decode cX6_isInstruction 68 = .ok (.iload_n 1, 1) := by decide +kernel
theorem dX6_isInstruction_69 : decode cX6_isInstruction 69 = .ok (.invokestatic 16, 3) := by decide +kernel
theorem dX6_isInstruction_72 : decode cX6_isInstruction 72 = .ok (.ifCond .eq 25, 3) := by decide +kernel
theorem dX6_isInstruction_75 : decode cX6_isInstruction 75 = .ok (.iload_n 2, 1) := by decide +kernel
theorem dX6_isInstruction_76 : decode cX6_isInstruction 76 = .ok (.sipush (-999), 3) := by decide +kernel
theorem dX6_isInstruction_79 : decode cX6_isInstruction 79 = .ok (.if_icmp .lt 18, 3) := by decide +kernel
theorem dX6_isInstruction_82 : decode cX6_isInstruction 82 = .ok (.iload_n 2, 1) := by decide +kernel
theorem dX6_isInstruction_83 : decode cX6_isInstruction 83 = .ok (.sipush 999, 3) := by decide +kernel
theorem dX6_isInstruction_86 : decode cX6_isInstruction 86 = .ok (.if_icmp .gt 11, 3) := by decide +kernel
theorem dX6_isInstruction_89 : decode cX6_isInstruction 89 = .ok (.iload_n 3, 1) := by decide +kernel
theorem dX6_isInstruction_90 : decode cX6_isInstruction 90 = .ok (.ifCond .ne 7, 3) := by decide +kernel
theorem dX6_isInstruction_93 : decode cX6_isInstruction 93 = .ok (.iconst 1, 1) := by decide +kernel
theorem dX6_isInstruction_94 : decode cX6_isInstruction 94 = .ok (.goto 4, 3) := by decide +kernel
theorem dX6_isInstruction_97 : decode cX6_isInstruction 97 = .ok (.iconst 0, 1) := by decide +kernel
theorem dX6_isInstruction_98 : decode cX6_isInstruction 98 = .ok (.ireturn, 1) := by decide +kernel
theorem dX6_isInstruction_99 : decode cX6_isInstruction 99 = .ok (.iload_n 1, 1) := by decide +kernel
theorem dX6_isInstruction_100 : decode cX6_isInstruction 100 = .ok (.invokestatic 16, 3) := by decide +kernel
theorem dX6_isInstruction_103 : decode cX6_isInstruction 103 = .ok (.ifCond .eq 18, 3) := by decide +kernel
theorem dX6_isInstruction_106 : decode cX6_isInstruction 106 = .ok (.iload_n 2, 1) := by decide +kernel
theorem dX6_isInstruction_107 : decode cX6_isInstruction 107 = .ok (.invokestatic 16, 3) := by decide +kernel
theorem dX6_isInstruction_110 : decode cX6_isInstruction 110 = .ok (.ifCond .eq 11, 3) := by decide +kernel
theorem dX6_isInstruction_113 : decode cX6_isInstruction 113 = .ok (.iload_n 3, 1) := by decide +kernel
theorem dX6_isInstruction_114 : decode cX6_isInstruction 114 = .ok (.ifCond .ne 7, 3) := by decide +kernel
theorem dX6_isInstruction_117 : decode cX6_isInstruction 117 = .ok (.iconst 1, 1) := by decide +kernel
theorem dX6_isInstruction_118 : decode cX6_isInstruction 118 = .ok (.goto 4, 3) := by decide +kernel
theorem dX6_isInstruction_121 : decode cX6_isInstruction 121 = .ok (.iconst 0, 1) := by decide +kernel
theorem dX6_isInstruction_122 : decode cX6_isInstruction 122 = .ok (.ireturn, 1) := by decide +kernel
theorem dX6_isInstruction_123 : decode cX6_isInstruction 123 = .ok (.iload_n 1, 1) := by decide +kernel
theorem dX6_isInstruction_124 : decode cX6_isInstruction 124 = .ok (.ifCond .ne 21, 3) := by decide +kernel
theorem dX6_isInstruction_127 : decode cX6_isInstruction 127 = .ok (.iload_n 2, 1) := by decide +kernel
theorem dX6_isInstruction_128 : decode cX6_isInstruction 128 = .ok (.invokestatic 16, 3) := by decide +kernel
theorem dX6_isInstruction_131 : decode cX6_isInstruction 131 = .ok (.ifCond .eq 14, 3) := by decide +kernel
theorem dX6_isInstruction_134 : decode cX6_isInstruction 134 = .ok (.iload_n 3, 1) := by decide +kernel
theorem dX6_isInstruction_135 : decode cX6_isInstruction 135 = .ok (.invokestatic 16, 3) := by decide +kernel
theorem dX6_isInstruction_138 : decode cX6_isInstruction 138 = .ok (.ifCond .eq 7, 3) := by decide +kernel
theorem dX6_isInstruction_141 : decode cX6_isInstruction 141 = .ok (.iconst 1, 1) := by decide +kernel
theorem dX6_isInstruction_142 : decode cX6_isInstruction 142 = .ok (.goto 4, 3) := by decide +kernel
theorem dX6_isInstruction_145 : decode cX6_isInstruction 145 = .ok (.iconst 0, 1) := by decide +kernel
theorem dX6_isInstruction_146 : decode cX6_isInstruction 146 = .ok (.ireturn, 1) := by decide +kernel
theorem dX6_isInstruction_147 : decode cX6_isInstruction 147 = .ok (.iload_n 1, 1) := by decide +kernel
theorem dX6_isInstruction_148 : decode cX6_isInstruction 148 = .ok (.ifCond .ne 18, 3) := by decide +kernel
theorem dX6_isInstruction_151 : decode cX6_isInstruction 151 = .ok (.iload_n 2, 1) := by decide +kernel
theorem dX6_isInstruction_152 : decode cX6_isInstruction 152 = .ok (.invokestatic 20, 3) := by decide +kernel
theorem dX6_isInstruction_155 : decode cX6_isInstruction 155 = .ok (.ifCond .eq 11, 3) := by decide +kernel
theorem dX6_isInstruction_158 : decode cX6_isInstruction 158 = .ok (.iload_n 3, 1) := by decide +kernel
theorem dX6_isInstruction_159 : decode cX6_isInstruction 159 = .ok (.ifCond .ne 7, 3) := by decide +kernel
theorem dX6_isInstruction_162 : decode cX6_isInstruction 162 = .ok (.iconst 1, 1) := by decide +kernel
theorem dX6_isInstruction_163 : decode cX6_isInstruction 163 = .ok (.goto 4, 3) := by decide +kernel
theorem dX6_isInstruction_166 : decode cX6_isInstruction 166 = .ok (.iconst 0, 1) := by decide +kernel
theorem dX6_isInstruction_167 : decode cX6_isInstruction 167 = .ok (.ireturn, 1) := by decide +kernel
theorem dX6_isInstruction_168 : decode cX6_isInstruction 168 = .ok (.iload_n 1, 1) := by decide +kernel
theorem dX6_isInstruction_169 : decode cX6_isInstruction 169 = .ok (.ifCond .ne 21, 3) := by decide +kernel
theorem dX6_isInstruction_172 : decode cX6_isInstruction 172 = .ok (.iload_n 2, 1) := by decide +kernel
theorem dX6_isInstruction_173 : decode cX6_isInstruction 173 = .ok (.invokestatic 20, 3) := by decide +kernel
theorem dX6_isInstruction_176 : decode cX6_isInstruction 176 = .ok (.ifCond .eq 14, 3) := by decide +kernel
theorem dX6_isInstruction_179 : decode cX6_isInstruction 179 = .ok (.iload_n 3, 1) := by decide +kernel
theorem dX6_isInstruction_180 : decode cX6_isInstruction 180 = .ok (.invokestatic 16, 3) := by decide +kernel
theorem dX6_isInstruction_183 : decode cX6_isInstruction 183 = .ok (.ifCond .eq 7, 3) := by decide +kernel
theorem dX6_isInstruction_186 : decode cX6_isInstruction 186 = .ok (.iconst 1, 1) := by decide +kernel
theorem dX6_isInstruction_187 : decode cX6_isInstruction 187 = .ok (.goto 4, 3) := by decide +kernel
theorem dX6_isInstruction_190 : decode cX6_isInstruction 190 = .ok (.iconst 0, 1) := by decide +kernel
theorem dX6_isInstruction_191 : decode cX6_isInstruction 191 = .ok (.ireturn, 1) := by decide +kernel
theorem dX6_isInstruction_192 : decode cX6_isInstruction 192 = .ok (.iload_n 1, 1) := by decide +kernel
theorem dX6_isInstruction_193 : decode cX6_isInstruction 193 = .ok (.ifCond .ne 15, 3) := by decide +kernel
theorem dX6_isInstruction_196 : decode cX6_isInstruction 196 = .ok (.iload_n 2, 1) := by decide +kernel
theorem dX6_isInstruction_197 : decode cX6_isInstruction 197 = .ok (.ifCond .ne 11, 3) := by decide +kernel
theorem dX6_isInstruction_200 : decode cX6_isInstruction 200 = .ok (.iload_n 3, 1) := by decide +kernel
theorem dX6_isInstruction_201 : decode cX6_isInstruction 201 = .ok (.ifCond .ne 7, 3) := by decide +kernel
theorem dX6_isInstruction_204 : decode cX6_isInstruction 204 = .ok (.iconst 1, 1) := by decide +kernel
theorem dX6_isInstruction_205 : decode cX6_isInstruction 205 = .ok (.goto 4, 3) := by decide +kernel
theorem dX6_isInstruction_208 : decode cX6_isInstruction 208 = .ok (.iconst 0, 1) := by decide +kernel
theorem dX6_isInstruction_209 : decode cX6_isInstruction 209 = .ok (.ireturn, 1) := by decide +kernel
theorem dX6_isInstruction_210 : decode cX6_isInstruction 210 = .ok (.iload_n 0, 1) := by decide +kernel
theorem dX6_isInstruction_211 : decode cX6_isInstruction 211 = .ok (.invokestatic 23, 3) := by decide +kernel
theorem dX6_isInstruction_214 : decode cX6_isInstruction 214 = .ok (.ifCond .eq 28, 3) := by decide +kernel
theorem dX6_isInstruction_217 : decode cX6_isInstruction 217 = .ok (.iload_n 1, 1) := by decide +kernel
theorem dX6_isInstruction_218 : decode cX6_isInstruction 218 = .ok (.invokestatic 16, 3) := by decide +kernel
theorem dX6_isInstruction_221 : decode cX6_isInstruction 221 = .ok (.ifCond .eq 21, 3) := by decide +kernel
theorem dX6_isInstruction_224 : decode cX6_isInstruction 224 = .ok (.iload_n 2, 1) := by decide +kernel
theorem dX6_isInstruction_225 : decode cX6_isInstruction 225 = .ok (.invokestatic 16, 3) := by decide +kernel
theorem dX6_isInstruction_228 : decode cX6_isInstruction 228 = .ok (.ifCond .eq 14, 3) := by decide +kernel
theorem dX6_isInstruction_231 : decode cX6_isInstruction 231 = .ok (.iload_n 3, 1) := by decide +kernel
theorem dX6_isInstruction_232 : decode cX6_isInstruction 232 = .ok (.invokestatic 16, 3) := by decide +kernel
theorem dX6_isInstruction_235 : decode cX6_isInstruction 235 = .ok (.ifCond .eq 7, 3) := by decide +kernel
theorem dX6_isInstruction_238 : decode cX6_isInstruction 238 = .ok (.iconst 1, 1) := by decide +kernel
theorem dX6_isInstruction_239 : decode cX6_isInstruction 239 = .ok (.goto 4, 3) := by decide +kernel
theorem dX6_isInstruction_242 : decode cX6_isInstruction 242 = .ok (.iconst 0, 1) := by decide +kernel
theorem dX6_isInstruction_243 : decode cX6_isInstruction 243 = .ok (.ireturn, 1) := by decide +kernel
abbrev rm_X6_isInstruction : Room := { frames := 1, cells := 0, slots := 0, locals := 20 }
theorem w_X6_isInstruction_210 {X : gX} {σ : sg} {p0 : Int32} {p1 : Int32} {p2 : Int32} {p3 : Int32} {r0 : Int32} (C : gC X cX6_isInstruction 4 RX6 (some .boolean) rm_X6_isInstruction)  (hQ : gQ X (qI (XG X) r0 σ))  (hf : J_X6_isInstruction_210 σ p0 p1 p2 p3 = some r0) : G X 4 σ 210 [(0, .int p0), (1, .int p1), (2, .int p2), (3, .int p3)] [] := by
  unfold J_X6_isInstruction_210 at hf
  refine g_iload_n C 0 dX6_isInstruction_210 rfl ?_
  obtain ⟨v211, h1, hf⟩ := g_bind hf
  refine g_callSi C 1 [.int p0] (c_X6_isCalculation (Xl X) (gC_I C)  h1) ⟨wml_303, wst_304, win_2, wcd_305⟩ hd_X6_isCalculation ⟨rfl, rfl⟩ ⟨Nat.le_of_ble_eq_true rfl, Nat.le_of_ble_eq_true rfl⟩ rfl rfl (Nat.le_of_ble_eq_true rfl) dX6_isInstruction_211 ?_
  clear h1
  refine g_if_eq C 242 hf dX6_isInstruction_214 (by decide) (fun hf => ?_) (fun hf => ?_)
  · refine g_iconst C (v := 0) dX6_isInstruction_242 rfl ?_
    have e0 : r0 = (0 : Int32) := (Option.some.inj hf).symm
    exact g_iret C rfl hQ (by rw [e0]) rfl dX6_isInstruction_243
  · refine g_iload_n C 1 dX6_isInstruction_217 rfl ?_
    obtain ⟨v218, h1, hf⟩ := g_bind hf
    refine g_callSi C 1 [.int p1] (c_X6_isRegister (Xl X) (gC_I C)  h1) ⟨wml_297, wst_298, win_2, wcd_299⟩ hd_X6_isRegister ⟨rfl, rfl⟩ ⟨Nat.le_of_ble_eq_true rfl, Nat.le_of_ble_eq_true rfl⟩ rfl rfl (Nat.le_of_ble_eq_true rfl) dX6_isInstruction_218 ?_
    clear h1
    refine g_if_eq C 242 hf dX6_isInstruction_221 (by decide) (fun hf => ?_) (fun hf => ?_)
    · refine g_iconst C (v := 0) dX6_isInstruction_242 rfl ?_
      have e0 : r0 = (0 : Int32) := (Option.some.inj hf).symm
      exact g_iret C rfl hQ (by rw [e0]) rfl dX6_isInstruction_243
    · refine g_iload_n C 2 dX6_isInstruction_224 rfl ?_
      obtain ⟨v225, h1, hf⟩ := g_bind hf
      refine g_callSi C 1 [.int p2] (c_X6_isRegister (Xl X) (gC_I C)  h1) ⟨wml_297, wst_298, win_2, wcd_299⟩ hd_X6_isRegister ⟨rfl, rfl⟩ ⟨Nat.le_of_ble_eq_true rfl, Nat.le_of_ble_eq_true rfl⟩ rfl rfl (Nat.le_of_ble_eq_true rfl) dX6_isInstruction_225 ?_
      clear h1
      refine g_if_eq C 242 hf dX6_isInstruction_228 (by decide) (fun hf => ?_) (fun hf => ?_)
      · refine g_iconst C (v := 0) dX6_isInstruction_242 rfl ?_
        have e0 : r0 = (0 : Int32) := (Option.some.inj hf).symm
        exact g_iret C rfl hQ (by rw [e0]) rfl dX6_isInstruction_243
      · refine g_iload_n C 3 dX6_isInstruction_231 rfl ?_
        obtain ⟨v232, h1, hf⟩ := g_bind hf
        refine g_callSi C 1 [.int p3] (c_X6_isRegister (Xl X) (gC_I C)  h1) ⟨wml_297, wst_298, win_2, wcd_299⟩ hd_X6_isRegister ⟨rfl, rfl⟩ ⟨Nat.le_of_ble_eq_true rfl, Nat.le_of_ble_eq_true rfl⟩ rfl rfl (Nat.le_of_ble_eq_true rfl) dX6_isInstruction_232 ?_
        clear h1
        refine g_if_eq C 242 hf dX6_isInstruction_235 (by decide) (fun hf => ?_) (fun hf => ?_)
        · refine g_iconst C (v := 0) dX6_isInstruction_242 rfl ?_
          have e0 : r0 = (0 : Int32) := (Option.some.inj hf).symm
          exact g_iret C rfl hQ (by rw [e0]) rfl dX6_isInstruction_243
        · refine g_iconst C (v := 1) dX6_isInstruction_238 rfl ?_
          refine g_goto C 243 dX6_isInstruction_239 (by decide) ?_
          have e0 : r0 = (1 : Int32) := (Option.some.inj hf).symm
          exact g_iret C rfl hQ (by rw [e0]) rfl dX6_isInstruction_243
theorem w_X6_isInstruction_e {X : gX} {σ : sg} {p0 : Int32} {p1 : Int32} {p2 : Int32} {p3 : Int32} {r0 : Int32} (C : gC X cX6_isInstruction 4 RX6 (some .boolean) rm_X6_isInstruction)  (hQ : gQ X (qI (XG X) r0 σ)) (hf : f_X6_isInstruction σ p0 p1 p2 p3 = some r0) : G X 4 σ 0 [(0, .int p0), (1, .int p1), (2, .int p2), (3, .int p3)] [] := by
  unfold f_X6_isInstruction at hf
  refine g_iload_n C 0 dX6_isInstruction_0 rfl ?_
  refine g_if hf (fun hf e1 => ?_) (fun hf n0 => ?_)
  · refine g_tcase C (0 : Int32) 68 dX6_isInstruction_1 e1 (by decide) (by decide) rfl (by decide) ?_
    refine g_iload_n C 1 dX6_isInstruction_68 rfl ?_
    obtain ⟨v69, h1, hf⟩ := g_bind hf
    refine g_callSi C 1 [.int p1] (c_X6_isRegister (Xl X) (gC_I C)  h1) ⟨wml_297, wst_298, win_2, wcd_299⟩ hd_X6_isRegister ⟨rfl, rfl⟩ ⟨Nat.le_of_ble_eq_true rfl, Nat.le_of_ble_eq_true rfl⟩ rfl rfl (Nat.le_of_ble_eq_true rfl) dX6_isInstruction_69 ?_
    clear h1
    refine g_if_eq C 97 hf dX6_isInstruction_72 (by decide) (fun hf => ?_) (fun hf => ?_)
    · refine g_iconst C (v := 0) dX6_isInstruction_97 rfl ?_
      have e0 : r0 = (0 : Int32) := (Option.some.inj hf).symm
      exact g_iret C rfl hQ (by rw [e0]) rfl dX6_isInstruction_98
    · refine g_iload_n C 2 dX6_isInstruction_75 rfl ?_
      refine g_sipush C (v := (-999)) dX6_isInstruction_76 rfl ?_
      refine g_icmp_lt C 97 hf dX6_isInstruction_79 (by decide) (fun hf => ?_) (fun hf => ?_)
      · refine g_iconst C (v := 0) dX6_isInstruction_97 rfl ?_
        have e0 : r0 = (0 : Int32) := (Option.some.inj hf).symm
        exact g_iret C rfl hQ (by rw [e0]) rfl dX6_isInstruction_98
      · refine g_iload_n C 2 dX6_isInstruction_82 rfl ?_
        refine g_sipush C (v := 999) dX6_isInstruction_83 rfl ?_
        refine g_icmp_gt C 97 hf dX6_isInstruction_86 (by decide) (fun hf => ?_) (fun hf => ?_)
        · refine g_iconst C (v := 0) dX6_isInstruction_97 rfl ?_
          have e0 : r0 = (0 : Int32) := (Option.some.inj hf).symm
          exact g_iret C rfl hQ (by rw [e0]) rfl dX6_isInstruction_98
        · refine g_iload_n C 3 dX6_isInstruction_89 rfl ?_
          refine g_if_ne C 97 hf dX6_isInstruction_90 (by decide) (fun hf => ?_) (fun hf => ?_)
          · refine g_iconst C (v := 1) dX6_isInstruction_93 rfl ?_
            refine g_goto C 98 dX6_isInstruction_94 (by decide) ?_
            have e0 : r0 = (1 : Int32) := (Option.some.inj hf).symm
            exact g_iret C rfl hQ (by rw [e0]) rfl dX6_isInstruction_98
          · refine g_iconst C (v := 0) dX6_isInstruction_97 rfl ?_
            have e0 : r0 = (0 : Int32) := (Option.some.inj hf).symm
            exact g_iret C rfl hQ (by rw [e0]) rfl dX6_isInstruction_98
  · refine g_if hf (fun hf e1 => ?_) (fun hf n1 => ?_)
    · refine g_tcase C (1 : Int32) 210 dX6_isInstruction_1 e1 (by decide) (by decide) rfl (by decide) ?_
      exact w_X6_isInstruction_210 C  hQ  hf
    · refine g_if hf (fun hf e1 => ?_) (fun hf n2 => ?_)
      · refine g_tcase C (2 : Int32) 210 dX6_isInstruction_1 e1 (by decide) (by decide) rfl (by decide) ?_
        exact w_X6_isInstruction_210 C  hQ  hf
      · refine g_if hf (fun hf e1 => ?_) (fun hf n3 => ?_)
        · refine g_tcase C (3 : Int32) 210 dX6_isInstruction_1 e1 (by decide) (by decide) rfl (by decide) ?_
          exact w_X6_isInstruction_210 C  hQ  hf
        · refine g_if hf (fun hf e1 => ?_) (fun hf n4 => ?_)
          · refine g_tcase C (4 : Int32) 210 dX6_isInstruction_1 e1 (by decide) (by decide) rfl (by decide) ?_
            exact w_X6_isInstruction_210 C  hQ  hf
          · refine g_if hf (fun hf e1 => ?_) (fun hf n5 => ?_)
            · refine g_tcase C (5 : Int32) 210 dX6_isInstruction_1 e1 (by decide) (by decide) rfl (by decide) ?_
              exact w_X6_isInstruction_210 C  hQ  hf
            · refine g_if hf (fun hf e1 => ?_) (fun hf n6 => ?_)
              · refine g_tcase C (6 : Int32) 210 dX6_isInstruction_1 e1 (by decide) (by decide) rfl (by decide) ?_
                exact w_X6_isInstruction_210 C  hQ  hf
              · refine g_if hf (fun hf e1 => ?_) (fun hf n7 => ?_)
                · refine g_tcase C (7 : Int32) 210 dX6_isInstruction_1 e1 (by decide) (by decide) rfl (by decide) ?_
                  exact w_X6_isInstruction_210 C  hQ  hf
                · refine g_if hf (fun hf e1 => ?_) (fun hf n8 => ?_)
                  · refine g_tcase C (8 : Int32) 99 dX6_isInstruction_1 e1 (by decide) (by decide) rfl (by decide) ?_
                    refine g_iload_n C 1 dX6_isInstruction_99 rfl ?_
                    obtain ⟨v100, h1, hf⟩ := g_bind hf
                    refine g_callSi C 1 [.int p1] (c_X6_isRegister (Xl X) (gC_I C)  h1) ⟨wml_297, wst_298, win_2, wcd_299⟩ hd_X6_isRegister ⟨rfl, rfl⟩ ⟨Nat.le_of_ble_eq_true rfl, Nat.le_of_ble_eq_true rfl⟩ rfl rfl (Nat.le_of_ble_eq_true rfl) dX6_isInstruction_100 ?_
                    clear h1
                    refine g_if_eq C 121 hf dX6_isInstruction_103 (by decide) (fun hf => ?_) (fun hf => ?_)
                    · refine g_iconst C (v := 0) dX6_isInstruction_121 rfl ?_
                      have e0 : r0 = (0 : Int32) := (Option.some.inj hf).symm
                      exact g_iret C rfl hQ (by rw [e0]) rfl dX6_isInstruction_122
                    · refine g_iload_n C 2 dX6_isInstruction_106 rfl ?_
                      obtain ⟨v107, h1, hf⟩ := g_bind hf
                      refine g_callSi C 1 [.int p2] (c_X6_isRegister (Xl X) (gC_I C)  h1) ⟨wml_297, wst_298, win_2, wcd_299⟩ hd_X6_isRegister ⟨rfl, rfl⟩ ⟨Nat.le_of_ble_eq_true rfl, Nat.le_of_ble_eq_true rfl⟩ rfl rfl (Nat.le_of_ble_eq_true rfl) dX6_isInstruction_107 ?_
                      clear h1
                      refine g_if_eq C 121 hf dX6_isInstruction_110 (by decide) (fun hf => ?_) (fun hf => ?_)
                      · refine g_iconst C (v := 0) dX6_isInstruction_121 rfl ?_
                        have e0 : r0 = (0 : Int32) := (Option.some.inj hf).symm
                        exact g_iret C rfl hQ (by rw [e0]) rfl dX6_isInstruction_122
                      · refine g_iload_n C 3 dX6_isInstruction_113 rfl ?_
                        refine g_if_ne C 121 hf dX6_isInstruction_114 (by decide) (fun hf => ?_) (fun hf => ?_)
                        · refine g_iconst C (v := 1) dX6_isInstruction_117 rfl ?_
                          refine g_goto C 122 dX6_isInstruction_118 (by decide) ?_
                          have e0 : r0 = (1 : Int32) := (Option.some.inj hf).symm
                          exact g_iret C rfl hQ (by rw [e0]) rfl dX6_isInstruction_122
                        · refine g_iconst C (v := 0) dX6_isInstruction_121 rfl ?_
                          have e0 : r0 = (0 : Int32) := (Option.some.inj hf).symm
                          exact g_iret C rfl hQ (by rw [e0]) rfl dX6_isInstruction_122
                  · refine g_if hf (fun hf e1 => ?_) (fun hf n9 => ?_)
                    · refine g_tcase C (9 : Int32) 123 dX6_isInstruction_1 e1 (by decide) (by decide) rfl (by decide) ?_
                      refine g_iload_n C 1 dX6_isInstruction_123 rfl ?_
                      refine g_if_ne C 145 hf dX6_isInstruction_124 (by decide) (fun hf => ?_) (fun hf => ?_)
                      · refine g_iload_n C 2 dX6_isInstruction_127 rfl ?_
                        obtain ⟨v128, h1, hf⟩ := g_bind hf
                        refine g_callSi C 1 [.int p2] (c_X6_isRegister (Xl X) (gC_I C)  h1) ⟨wml_297, wst_298, win_2, wcd_299⟩ hd_X6_isRegister ⟨rfl, rfl⟩ ⟨Nat.le_of_ble_eq_true rfl, Nat.le_of_ble_eq_true rfl⟩ rfl rfl (Nat.le_of_ble_eq_true rfl) dX6_isInstruction_128 ?_
                        clear h1
                        refine g_if_eq C 145 hf dX6_isInstruction_131 (by decide) (fun hf => ?_) (fun hf => ?_)
                        · refine g_iconst C (v := 0) dX6_isInstruction_145 rfl ?_
                          have e0 : r0 = (0 : Int32) := (Option.some.inj hf).symm
                          exact g_iret C rfl hQ (by rw [e0]) rfl dX6_isInstruction_146
                        · refine g_iload_n C 3 dX6_isInstruction_134 rfl ?_
                          obtain ⟨v135, h1, hf⟩ := g_bind hf
                          refine g_callSi C 1 [.int p3] (c_X6_isRegister (Xl X) (gC_I C)  h1) ⟨wml_297, wst_298, win_2, wcd_299⟩ hd_X6_isRegister ⟨rfl, rfl⟩ ⟨Nat.le_of_ble_eq_true rfl, Nat.le_of_ble_eq_true rfl⟩ rfl rfl (Nat.le_of_ble_eq_true rfl) dX6_isInstruction_135 ?_
                          clear h1
                          refine g_if_eq C 145 hf dX6_isInstruction_138 (by decide) (fun hf => ?_) (fun hf => ?_)
                          · refine g_iconst C (v := 0) dX6_isInstruction_145 rfl ?_
                            have e0 : r0 = (0 : Int32) := (Option.some.inj hf).symm
                            exact g_iret C rfl hQ (by rw [e0]) rfl dX6_isInstruction_146
                          · refine g_iconst C (v := 1) dX6_isInstruction_141 rfl ?_
                            refine g_goto C 146 dX6_isInstruction_142 (by decide) ?_
                            have e0 : r0 = (1 : Int32) := (Option.some.inj hf).symm
                            exact g_iret C rfl hQ (by rw [e0]) rfl dX6_isInstruction_146
                      · refine g_iconst C (v := 0) dX6_isInstruction_145 rfl ?_
                        have e0 : r0 = (0 : Int32) := (Option.some.inj hf).symm
                        exact g_iret C rfl hQ (by rw [e0]) rfl dX6_isInstruction_146
                    · refine g_if hf (fun hf e1 => ?_) (fun hf n10 => ?_)
                      · refine g_tcase C (10 : Int32) 147 dX6_isInstruction_1 e1 (by decide) (by decide) rfl (by decide) ?_
                        refine g_iload_n C 1 dX6_isInstruction_147 rfl ?_
                        refine g_if_ne C 166 hf dX6_isInstruction_148 (by decide) (fun hf => ?_) (fun hf => ?_)
                        · refine g_iload_n C 2 dX6_isInstruction_151 rfl ?_
                          obtain ⟨v152, h1, hf⟩ := g_bind hf
                          refine g_callSi C 1 [.int p2] (c_X6_isTarget (Xl X) (gC_I C)  h1) ⟨wml_300, wst_301, win_2, wcd_302⟩ hd_X6_isTarget ⟨rfl, rfl⟩ ⟨Nat.le_of_ble_eq_true rfl, Nat.le_of_ble_eq_true rfl⟩ rfl rfl (Nat.le_of_ble_eq_true rfl) dX6_isInstruction_152 ?_
                          clear h1
                          refine g_if_eq C 166 hf dX6_isInstruction_155 (by decide) (fun hf => ?_) (fun hf => ?_)
                          · refine g_iconst C (v := 0) dX6_isInstruction_166 rfl ?_
                            have e0 : r0 = (0 : Int32) := (Option.some.inj hf).symm
                            exact g_iret C rfl hQ (by rw [e0]) rfl dX6_isInstruction_167
                          · refine g_iload_n C 3 dX6_isInstruction_158 rfl ?_
                            refine g_if_ne C 166 hf dX6_isInstruction_159 (by decide) (fun hf => ?_) (fun hf => ?_)
                            · refine g_iconst C (v := 1) dX6_isInstruction_162 rfl ?_
                              refine g_goto C 167 dX6_isInstruction_163 (by decide) ?_
                              have e0 : r0 = (1 : Int32) := (Option.some.inj hf).symm
                              exact g_iret C rfl hQ (by rw [e0]) rfl dX6_isInstruction_167
                            · refine g_iconst C (v := 0) dX6_isInstruction_166 rfl ?_
                              have e0 : r0 = (0 : Int32) := (Option.some.inj hf).symm
                              exact g_iret C rfl hQ (by rw [e0]) rfl dX6_isInstruction_167
                        · refine g_iconst C (v := 0) dX6_isInstruction_166 rfl ?_
                          have e0 : r0 = (0 : Int32) := (Option.some.inj hf).symm
                          exact g_iret C rfl hQ (by rw [e0]) rfl dX6_isInstruction_167
                      · refine g_if hf (fun hf e1 => ?_) (fun hf n11 => ?_)
                        · refine g_tcase C (11 : Int32) 168 dX6_isInstruction_1 e1 (by decide) (by decide) rfl (by decide) ?_
                          refine g_iload_n C 1 dX6_isInstruction_168 rfl ?_
                          refine g_if_ne C 190 hf dX6_isInstruction_169 (by decide) (fun hf => ?_) (fun hf => ?_)
                          · refine g_iload_n C 2 dX6_isInstruction_172 rfl ?_
                            obtain ⟨v173, h1, hf⟩ := g_bind hf
                            refine g_callSi C 1 [.int p2] (c_X6_isTarget (Xl X) (gC_I C)  h1) ⟨wml_300, wst_301, win_2, wcd_302⟩ hd_X6_isTarget ⟨rfl, rfl⟩ ⟨Nat.le_of_ble_eq_true rfl, Nat.le_of_ble_eq_true rfl⟩ rfl rfl (Nat.le_of_ble_eq_true rfl) dX6_isInstruction_173 ?_
                            clear h1
                            refine g_if_eq C 190 hf dX6_isInstruction_176 (by decide) (fun hf => ?_) (fun hf => ?_)
                            · refine g_iconst C (v := 0) dX6_isInstruction_190 rfl ?_
                              have e0 : r0 = (0 : Int32) := (Option.some.inj hf).symm
                              exact g_iret C rfl hQ (by rw [e0]) rfl dX6_isInstruction_191
                            · refine g_iload_n C 3 dX6_isInstruction_179 rfl ?_
                              obtain ⟨v180, h1, hf⟩ := g_bind hf
                              refine g_callSi C 1 [.int p3] (c_X6_isRegister (Xl X) (gC_I C)  h1) ⟨wml_297, wst_298, win_2, wcd_299⟩ hd_X6_isRegister ⟨rfl, rfl⟩ ⟨Nat.le_of_ble_eq_true rfl, Nat.le_of_ble_eq_true rfl⟩ rfl rfl (Nat.le_of_ble_eq_true rfl) dX6_isInstruction_180 ?_
                              clear h1
                              refine g_if_eq C 190 hf dX6_isInstruction_183 (by decide) (fun hf => ?_) (fun hf => ?_)
                              · refine g_iconst C (v := 0) dX6_isInstruction_190 rfl ?_
                                have e0 : r0 = (0 : Int32) := (Option.some.inj hf).symm
                                exact g_iret C rfl hQ (by rw [e0]) rfl dX6_isInstruction_191
                              · refine g_iconst C (v := 1) dX6_isInstruction_186 rfl ?_
                                refine g_goto C 191 dX6_isInstruction_187 (by decide) ?_
                                have e0 : r0 = (1 : Int32) := (Option.some.inj hf).symm
                                exact g_iret C rfl hQ (by rw [e0]) rfl dX6_isInstruction_191
                          · refine g_iconst C (v := 0) dX6_isInstruction_190 rfl ?_
                            have e0 : r0 = (0 : Int32) := (Option.some.inj hf).symm
                            exact g_iret C rfl hQ (by rw [e0]) rfl dX6_isInstruction_191
                        · refine g_if hf (fun hf e1 => ?_) (fun hf n12 => ?_)
                          · refine g_tcase C (12 : Int32) 192 dX6_isInstruction_1 e1 (by decide) (by decide) rfl (by decide) ?_
                            refine g_iload_n C 1 dX6_isInstruction_192 rfl ?_
                            refine g_if_ne C 208 hf dX6_isInstruction_193 (by decide) (fun hf => ?_) (fun hf => ?_)
                            · refine g_iload_n C 2 dX6_isInstruction_196 rfl ?_
                              refine g_if_ne C 208 hf dX6_isInstruction_197 (by decide) (fun hf => ?_) (fun hf => ?_)
                              · refine g_iload_n C 3 dX6_isInstruction_200 rfl ?_
                                refine g_if_ne C 208 hf dX6_isInstruction_201 (by decide) (fun hf => ?_) (fun hf => ?_)
                                · refine g_iconst C (v := 1) dX6_isInstruction_204 rfl ?_
                                  refine g_goto C 209 dX6_isInstruction_205 (by decide) ?_
                                  have e0 : r0 = (1 : Int32) := (Option.some.inj hf).symm
                                  exact g_iret C rfl hQ (by rw [e0]) rfl dX6_isInstruction_209
                                · refine g_iconst C (v := 0) dX6_isInstruction_208 rfl ?_
                                  have e0 : r0 = (0 : Int32) := (Option.some.inj hf).symm
                                  exact g_iret C rfl hQ (by rw [e0]) rfl dX6_isInstruction_209
                              · refine g_iconst C (v := 0) dX6_isInstruction_208 rfl ?_
                                have e0 : r0 = (0 : Int32) := (Option.some.inj hf).symm
                                exact g_iret C rfl hQ (by rw [e0]) rfl dX6_isInstruction_209
                            · refine g_iconst C (v := 0) dX6_isInstruction_208 rfl ?_
                              have e0 : r0 = (0 : Int32) := (Option.some.inj hf).symm
                              exact g_iret C rfl hQ (by rw [e0]) rfl dX6_isInstruction_209
                          · refine g_tout C 210 dX6_isInstruction_1 (by have := lv_neT (a := 0) n0 rfl; have := lv_neT (a := 1) n1 rfl; have := lv_neT (a := 2) n2 rfl; have := lv_neT (a := 3) n3 rfl; have := lv_neT (a := 4) n4 rfl; have := lv_neT (a := 5) n5 rfl; have := lv_neT (a := 6) n6 rfl; have := lv_neT (a := 7) n7 rfl; have := lv_neT (a := 8) n8 rfl; have := lv_neT (a := 9) n9 rfl; have := lv_neT (a := 10) n10 rfl; have := lv_neT (a := 11) n11 rfl; have := lv_neT (a := 12) n12 rfl; omega) (by decide) ?_
                            exact w_X6_isInstruction_210 C  hQ  hf
theorem c_X6_isInstruction (l : Launch) {Gw : gW} (hI : g_I Gw) {σ : sg} {p0 : Int32} {p1 : Int32} {p2 : Int32} {p3 : Int32} {r : Int32}  (hf : f_X6_isInstruction σ p0 p1 p2 p3 = some r) : gM l Gw yX6_isInstruction cX6_isInstruction 4 (some .boolean) rm_X6_isInstruction [.int p0, .int p1, .int p2, .int p3] σ (qI (Gw) r σ) := by
  refine g_met hI (by decide) (Nat.le_of_ble_eq_true rfl) (fun X h1 h2 C hQ => ?_)
  subst h1; subst h2
  exact w_X6_isInstruction_e C  hQ hf
