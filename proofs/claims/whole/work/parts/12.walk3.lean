theorem dX6_write_0 : decode cX6_write 0 = .ok (.aload_n 0, 1) := by decide +kernel
theorem dX6_write_1 : decode cX6_write 1 = .ok (.getfield 11, 3) := by decide +kernel
theorem dX6_write_4 : decode cX6_write 4 = .ok (.iload_n 1, 1) := by decide +kernel
theorem dX6_write_5 : decode cX6_write 5 = .ok (.aaload, 1) := by decide +kernel
theorem dX6_write_6 : decode cX6_write 6 = .ok (.astore 6, 2) := by decide +kernel
theorem dX6_write_8 : decode cX6_write 8 = .ok (.aload 6, 2) := by decide +kernel
theorem dX6_write_10 : decode cX6_write 10 = .ok (.iconst 0, 1) := by decide +kernel
theorem dX6_write_11 : decode cX6_write 11 = .ok (.iload_n 2, 1) := by decide +kernel
theorem dX6_write_12 : decode cX6_write 12 = .ok (.iastore, 1) := by decide +kernel
theorem dX6_write_13 : decode cX6_write 13 = .ok (.aload 6, 2) := by decide +kernel
theorem dX6_write_15 : decode cX6_write 15 = .ok (.iconst 1, 1) := by decide +kernel
theorem dX6_write_16 : decode cX6_write 16 = .ok (.iload_n 3, 1) := by decide +kernel
theorem dX6_write_17 : decode cX6_write 17 = .ok (.iastore, 1) := by decide +kernel
theorem dX6_write_18 : decode cX6_write 18 = .ok (.aload 6, 2) := by decide +kernel
theorem dX6_write_20 : decode cX6_write 20 = .ok (.iconst 2, 1) := by decide +kernel
theorem dX6_write_21 : decode cX6_write 21 = .ok (.iload 4, 2) := by decide +kernel
theorem dX6_write_23 : decode cX6_write 23 = .ok (.iastore, 1) := by decide +kernel
theorem dX6_write_24 : decode cX6_write 24 = .ok (.aload 6, 2) := by decide +kernel
theorem dX6_write_26 : decode cX6_write 26 = .ok (.iconst 3, 1) := by decide +kernel
theorem dX6_write_27 : decode cX6_write 27 = .ok (.iload 5, 2) := by decide +kernel
theorem dX6_write_29 : decode cX6_write 29 = .ok (.iastore, 1) := by decide +kernel
theorem dX6_write_30 : decode cX6_write 30 = .ok (.return_, 1) := by decide +kernel
abbrev rm_X6_write : Room := { frames := 0, cells := 0, slots := 0, locals := 0 }
theorem w_X6_write_e {X : gX} {σ : sg} {p1 : Int32} {p2 : Int32} {p3 : Int32} {p4 : Int32} {p5 : Int32} {r0 : sg} (C : gC X cX6_write 7 RX6 none rm_X6_write)  (hQ : gQ X (qV (XG X) r0)) (hf : f_X6_write σ p1 p2 p3 p4 p5 = some r0) : G X 7 σ 0 [(0, .ref (Xd X 1)), (1, .int p1), (2, .int p2), (3, .int p3), (4, .int p4), (5, .int p5)] [] := by
  unfold f_X6_write at hf
  refine g_aload_n C 0 dX6_write_0 rfl ?_
  refine g_getr C 6 0 (2) (by decide) sh_1 rfl vc_6 (by decide) inXX6 wfl_30 dX6_write_1 ?_
  refine g_iload_n C 1 dX6_write_4 rfl ?_
  obtain ⟨q5, h1, hf⟩ := g_bind hf
  refine g_aald C h1 dX6_write_5 ?_
  clear h1
  refine g_astore C (lv' := [(6, .ref (Xd X q5)), (0, .ref (Xd X 1)), (1, .int p1), (2, .int p2), (3, .int p3), (4, .int p4), (5, .int p5)]) dX6_write_6 (by decide) rfl ?_
  refine g_aload C 0 dX6_write_8 rfl ?_
  refine g_iconst C (v := 0) dX6_write_10 rfl ?_
  refine g_iload_n C 3 dX6_write_11 rfl ?_
  obtain ⟨s12, h1, hf⟩ := g_bind hf
  refine g_iast C h1 dX6_write_12 ?_
  clear h1
  refine g_aload C 0 dX6_write_13 rfl ?_
  refine g_iconst C (v := 1) dX6_write_15 rfl ?_
  refine g_iload_n C 4 dX6_write_16 rfl ?_
  obtain ⟨s17, h1, hf⟩ := g_bind hf
  refine g_iast C h1 dX6_write_17 ?_
  clear h1
  refine g_aload C 0 dX6_write_18 rfl ?_
  refine g_iconst C (v := 2) dX6_write_20 rfl ?_
  refine g_iload C 5 dX6_write_21 rfl ?_
  obtain ⟨s23, h1, hf⟩ := g_bind hf
  refine g_iast C h1 dX6_write_23 ?_
  clear h1
  refine g_aload C 0 dX6_write_24 rfl ?_
  refine g_iconst C (v := 3) dX6_write_26 rfl ?_
  refine g_iload C 6 dX6_write_27 rfl ?_
  obtain ⟨s29, h1, hf⟩ := g_bind hf
  refine g_iast C h1 dX6_write_29 ?_
  clear h1
  have e0 : r0 = s29 := (Option.some.inj hf).symm
  exact g_vret C rfl hQ (by rw [e0]) dX6_write_30
theorem c_X6_write (l : Launch) {Gw : gW} (hI : g_I Gw) {σ : sg} {p1 : Int32} {p2 : Int32} {p3 : Int32} {p4 : Int32} {p5 : Int32} {r : sg}  (hf : f_X6_write σ p1 p2 p3 p4 p5 = some r) : gM l Gw yX6_write cX6_write 7 none rm_X6_write [.ref (Gw.2.2 1), .int p1, .int p2, .int p3, .int p4, .int p5] σ (qV (Gw) r) := by
  refine g_met hI (by decide) (Nat.le_of_ble_eq_true rfl) (fun X h1 h2 C hQ => ?_)
  subst h1; subst h2
  exact w_X6_write_e C  hQ hf
theorem dX7_isType_0 : decode cX7_isType 0 = .ok (.iload_n 0, 1) := by decide +kernel
theorem dX7_isType_1 : decode cX7_isType 1 = .ok (.ifCond .lt 12, 3) := by decide +kernel
theorem dX7_isType_4 : decode cX7_isType 4 = .ok (.iload_n 0, 1) := by decide +kernel
theorem dX7_isType_5 : decode cX7_isType 5 = .ok (.iconst 4, 1) := by decide +kernel
theorem dX7_isType_6 : decode cX7_isType 6 = .ok (.if_icmp .ge 7, 3) := by decide +kernel
theorem dX7_isType_9 : decode cX7_isType 9 = .ok (.iconst 1, 1) := by decide +kernel
theorem dX7_isType_10 : decode cX7_isType 10 = .ok (.goto 4, 3) := by decide +kernel
theorem dX7_isType_13 : decode cX7_isType 13 = .ok (.iconst 0, 1) := by decide +kernel
theorem dX7_isType_14 : decode cX7_isType 14 = .ok (.ireturn, 1) := by decide +kernel
abbrev rm_X7_isType : Room := { frames := 0, cells := 0, slots := 0, locals := 0 }
theorem w_X7_isType_e {X : gX} {σ : sg} {p0 : Int32} {r0 : Int32} (C : gC X cX7_isType 1 RX7 (some .boolean) rm_X7_isType)  (hQ : gQ X (qI (XG X) r0 σ)) (hf : f_X7_isType σ p0 = some r0) : G X 1 σ 0 [(0, .int p0)] [] := by
  unfold f_X7_isType at hf
  refine g_iload_n C 0 dX7_isType_0 rfl ?_
  refine g_if_lt C 13 hf dX7_isType_1 (by decide) (fun hf => ?_) (fun hf => ?_)
  · refine g_iconst C (v := 0) dX7_isType_13 rfl ?_
    have e0 : r0 = (0 : Int32) := (Option.some.inj hf).symm
    exact g_iret C rfl hQ (by rw [e0]) rfl dX7_isType_14
  · refine g_iload_n C 0 dX7_isType_4 rfl ?_
    refine g_iconst C (v := 4) dX7_isType_5 rfl ?_
    refine g_icmp_ge C 13 hf dX7_isType_6 (by decide) (fun hf => ?_) (fun hf => ?_)
    · refine g_iconst C (v := 0) dX7_isType_13 rfl ?_
      have e0 : r0 = (0 : Int32) := (Option.some.inj hf).symm
      exact g_iret C rfl hQ (by rw [e0]) rfl dX7_isType_14
    · refine g_iconst C (v := 1) dX7_isType_9 rfl ?_
      refine g_goto C 14 dX7_isType_10 (by decide) ?_
      have e0 : r0 = (1 : Int32) := (Option.some.inj hf).symm
      exact g_iret C rfl hQ (by rw [e0]) rfl dX7_isType_14
theorem c_X7_isType (l : Launch) {Gw : gW} (hI : g_I Gw) {σ : sg} {p0 : Int32} {r : Int32}  (hf : f_X7_isType σ p0 = some r) : gM l Gw yX7_isType cX7_isType 1 (some .boolean) rm_X7_isType [.int p0] σ (qI (Gw) r σ) := by
  refine g_met hI (by decide) (Nat.le_of_ble_eq_true rfl) (fun X h1 h2 C hQ => ?_)
  subst h1; subst h2
  exact w_X7_isType_e C  hQ hf
theorem dX7_append_0 : decode cX7_append 0 = .ok (.aload_n 0, 1) := by decide +kernel
theorem dX7_append_1 : decode cX7_append 1 = .ok (.getfield 11, 3) := by decide +kernel
theorem dX7_append_4 : decode cX7_append 4 = .ok (.aload_n 0, 1) := by decide +kernel
theorem dX7_append_5 : decode cX7_append 5 = .ok (.getfield 20, 3) := by decide +kernel
theorem dX7_append_8 : decode cX7_append 8 = .ok (.aaload, 1) := by decide +kernel
theorem dX7_append_9 : decode cX7_append 9 = .ok (.iconst 0, 1) := by decide +kernel
theorem dX7_append_10 : decode cX7_append 10 = .ok (.iload_n 1, 1) := by decide +kernel
theorem dX7_append_11 : decode cX7_append 11 = .ok (.iastore, 1) := by decide +kernel
theorem dX7_append_12 : decode cX7_append 12 = .ok (.aload_n 0, 1) := by decide +kernel
theorem dX7_append_13 : decode cX7_append 13 = .ok (.getfield 11, 3) := by decide +kernel
theorem dX7_append_16 : decode cX7_append 16 = .ok (.aload_n 0, 1) := by decide +kernel
theorem dX7_append_17 : decode cX7_append 17 = .ok (.getfield 20, 3) := by decide +kernel
theorem dX7_append_20 : decode cX7_append 20 = .ok (.aaload, 1) := by decide +kernel
theorem dX7_append_21 : decode cX7_append 21 = .ok (.iconst 1, 1) := by decide +kernel
theorem dX7_append_22 : decode cX7_append 22 = .ok (.iload_n 2, 1) := by decide +kernel
theorem dX7_append_23 : decode cX7_append 23 = .ok (.iastore, 1) := by decide +kernel
theorem dX7_append_24 : decode cX7_append 24 = .ok (.aload_n 0, 1) := by decide +kernel
theorem dX7_append_25 : decode cX7_append 25 = .ok (.getfield 11, 3) := by decide +kernel
theorem dX7_append_28 : decode cX7_append 28 = .ok (.aload_n 0, 1) := by decide +kernel
theorem dX7_append_29 : decode cX7_append 29 = .ok (.getfield 20, 3) := by decide +kernel
theorem dX7_append_32 : decode cX7_append 32 = .ok (.aaload, 1) := by decide +kernel
theorem dX7_append_33 : decode cX7_append 33 = .ok (.iconst 2, 1) := by decide +kernel
theorem dX7_append_34 : decode cX7_append 34 = .ok (.iload_n 3, 1) := by decide +kernel
theorem dX7_append_35 : decode cX7_append 35 = .ok (.iastore, 1) := by decide +kernel
theorem dX7_append_36 : decode cX7_append 36 = .ok (.aload_n 0, 1) := by decide +kernel
theorem dX7_append_37 : decode cX7_append 37 = .ok (.getfield 16, 3) := by decide +kernel
theorem dX7_append_40 : decode cX7_append 40 = .ok (.aload_n 0, 1) := by decide +kernel
theorem dX7_append_41 : decode cX7_append 41 = .ok (.getfield 20, 3) := by decide +kernel
theorem dX7_append_44 : decode cX7_append 44 = .ok (.iload 4, 2) := by decide +kernel
theorem dX7_append_46 : decode cX7_append 46 = .ok (.iastore, 1) := by decide +kernel
theorem dX7_append_47 : decode cX7_append 47 = .ok (.aload_n 0, 1) := by decide +kernel
theorem dX7_append_48 : decode cX7_append 48 = .ok (.dup, 1) := by decide +kernel
theorem dX7_append_49 : decode cX7_append 49 = .ok (.getfield 20, 3) := by decide +kernel
theorem dX7_append_52 : decode cX7_append 52 = .ok (.iconst 1, 1) := by decide +kernel
theorem dX7_append_53 : decode cX7_append 53 = .ok (.iadd, 1) := by decide +kernel
theorem dX7_append_54 : decode cX7_append 54 = .ok (.putfield 20, 3) := by decide +kernel
theorem dX7_append_57 : decode cX7_append 57 = .ok (.return_, 1) := by decide +kernel
abbrev rm_X7_append : Room := { frames := 0, cells := 0, slots := 0, locals := 0 }
theorem w_X7_append_e {X : gX} {σ : sg} {p1 : Int32} {p2 : Int32} {p3 : Int32} {p4 : Int32} {r0 : sg} (C : gC X cX7_append 5 RX7 none rm_X7_append)  (hQ : gQ X (qV (XG X) r0)) (hf : f_X7_append σ p1 p2 p3 p4 = some r0) : G X 5 σ 0 [(0, .ref (Xd X 61)), (1, .int p1), (2, .int p2), (3, .int p3), (4, .int p4)] [] := by
  unfold f_X7_append at hf
  refine g_aload_n C 0 dX7_append_0 rfl ?_
  refine g_getr C 7 0 (62) (by decide) sh_61 rfl vc_7 (by decide) inXX7 wfl_105 dX7_append_1 ?_
  refine g_aload_n C 0 dX7_append_4 rfl ?_
  refine g_geti C 7 2 (by decide) sh_61 rfl vc_7 (by decide) inXX7 wfl_110 dX7_append_5 ?_
  obtain ⟨q8, h1, hf⟩ := g_bind hf
  refine g_aald C h1 dX7_append_8 ?_
  clear h1
  refine g_iconst C (v := 0) dX7_append_9 rfl ?_
  refine g_iload_n C 1 dX7_append_10 rfl ?_
  obtain ⟨s11, h1, hf⟩ := g_bind hf
  refine g_iast C h1 dX7_append_11 ?_
  clear h1
  refine g_aload_n C 0 dX7_append_12 rfl ?_
  refine g_getr C 7 0 (62) (by decide) sh_61 rfl vc_7 (by decide) inXX7 wfl_105 dX7_append_13 ?_
  refine g_aload_n C 0 dX7_append_16 rfl ?_
  refine g_geti C 7 2 (by decide) sh_61 rfl vc_7 (by decide) inXX7 wfl_110 dX7_append_17 ?_
  obtain ⟨q20, h1, hf⟩ := g_bind hf
  refine g_aald C h1 dX7_append_20 ?_
  clear h1
  refine g_iconst C (v := 1) dX7_append_21 rfl ?_
  refine g_iload_n C 2 dX7_append_22 rfl ?_
  obtain ⟨s23, h1, hf⟩ := g_bind hf
  refine g_iast C h1 dX7_append_23 ?_
  clear h1
  refine g_aload_n C 0 dX7_append_24 rfl ?_
  refine g_getr C 7 0 (62) (by decide) sh_61 rfl vc_7 (by decide) inXX7 wfl_105 dX7_append_25 ?_
  refine g_aload_n C 0 dX7_append_28 rfl ?_
  refine g_geti C 7 2 (by decide) sh_61 rfl vc_7 (by decide) inXX7 wfl_110 dX7_append_29 ?_
  obtain ⟨q32, h1, hf⟩ := g_bind hf
  refine g_aald C h1 dX7_append_32 ?_
  clear h1
  refine g_iconst C (v := 2) dX7_append_33 rfl ?_
  refine g_iload_n C 3 dX7_append_34 rfl ?_
  obtain ⟨s35, h1, hf⟩ := g_bind hf
  refine g_iast C h1 dX7_append_35 ?_
  clear h1
  refine g_aload_n C 0 dX7_append_36 rfl ?_
  refine g_getr C 7 1 (71) (by decide) sh_61 rfl vc_7 (by decide) inXX7 wfl_108 dX7_append_37 ?_
  refine g_aload_n C 0 dX7_append_40 rfl ?_
  refine g_geti C 7 2 (by decide) sh_61 rfl vc_7 (by decide) inXX7 wfl_110 dX7_append_41 ?_
  refine g_iload C 4 dX7_append_44 rfl ?_
  obtain ⟨s46, h1, hf⟩ := g_bind hf
  refine g_iast C h1 dX7_append_46 ?_
  clear h1
  refine g_aload_n C 0 dX7_append_47 rfl ?_
  refine g_dup C dX7_append_48 rfl ?_
  refine g_geti C 7 2 (by decide) sh_61 rfl vc_7 (by decide) inXX7 wfl_110 dX7_append_49 ?_
  refine g_iconst C (v := 1) dX7_append_52 rfl ?_
  refine g_iadd C dX7_append_53 ?_
  obtain ⟨s54, h1, hf⟩ := g_bind hf
  refine g_put C 7 2 (by decide) sh_61 rfl (by decide) vc_7 (by decide) tyX7 tyX7_ok nmX7 inXX7 wfl_110 rfl (ty := .int) (by decide +kernel) rfl rfl dX7_append_54 ?_
  rw [Option.some.inj h1]
  clear h1
  have e0 : r0 = s54 := (Option.some.inj hf).symm
  exact g_vret C rfl hQ (by rw [e0]) dX7_append_57
theorem c_X7_append (l : Launch) {Gw : gW} (hI : g_I Gw) {σ : sg} {p1 : Int32} {p2 : Int32} {p3 : Int32} {p4 : Int32} {r : sg}  (hf : f_X7_append σ p1 p2 p3 p4 = some r) : gM l Gw yX7_append cX7_append 5 none rm_X7_append [.ref (Gw.2.2 61), .int p1, .int p2, .int p3, .int p4] σ (qV (Gw) r) := by
  refine g_met hI (by decide) (Nat.le_of_ble_eq_true rfl) (fun X h1 h2 C hQ => ?_)
  subst h1; subst h2
  exact w_X7_append_e C  hQ hf
theorem dX8_add_0 : decode cX8_add 0 = .ok (.iload_n 1, 1) := by decide +kernel
theorem dX8_add_1 : decode cX8_add 1 = .ok (.iload_n 2, 1) := by decide +kernel
theorem dX8_add_2 : decode cX8_add 2 = .ok (.iload_n 3, 1) := by decide +kernel
theorem dX8_add_3 : decode cX8_add 3 = .ok (.iload 4, 2) := by decide +kernel
theorem dX8_add_5 : decode cX8_add 5 = .ok (.invokestatic 77, 3) := by decide +kernel
theorem dX8_add_8 : decode cX8_add 8 = .ok (.ifCond .ne 6, 3) := by decide +kernel
theorem dX8_add_11 : decode cX8_add 11 = .ok (.bipush (-2), 2) := by decide +kernel
theorem dX8_add_13 : decode cX8_add 13 = .ok (.ireturn, 1) := by decide +kernel
theorem dX8_add_14 : decode cX8_add 14 = .ok (.aload_n 0, 1) := by decide +kernel
theorem dX8_add_15 : decode cX8_add 15 = .ok (.getfield 51, 3) := by decide +kernel
theorem dX8_add_18 : decode cX8_add 18 = .ok (.getfield 81, 3) := by decide +kernel
theorem dX8_add_21 : decode cX8_add 21 = .ok (.ifCond .eq 6, 3) := by decide +kernel
theorem dX8_add_24 : decode cX8_add 24 = .ok (.bipush (-5), 2) := by decide +kernel
theorem dX8_add_26 : decode cX8_add 26 = .ok (.ireturn, 1) := by decide +kernel
theorem dX8_add_27 : decode cX8_add 27 = .ok (.aload_n 0, 1) := by decide +kernel
theorem dX8_add_28 : decode cX8_add 28 = .ok (.getfield 10, 3) := by decide +kernel
theorem dX8_add_31 : decode cX8_add 31 = .ok (.getfield 85, 3) := by decide +kernel
theorem dX8_add_34 : decode cX8_add 34 = .ok (.bipush 40, 2) := by decide +kernel
theorem dX8_add_36 : decode cX8_add 36 = .ok (.if_icmp .lt 6, 3) := by decide +kernel
theorem dX8_add_39 : decode cX8_add 39 = .ok (.bipush (-3), 2) := by decide +kernel
theorem dX8_add_41 : decode cX8_add 41 = .ok (.ireturn, 1) := by decide +kernel
theorem dX8_add_42 : decode cX8_add 42 = .ok (.aload_n 0, 1) := by decide +kernel
theorem dX8_add_43 : decode cX8_add 43 = .ok (.getfield 10, 3) := by decide +kernel
theorem dX8_add_46 : decode cX8_add 46 = .ok (.getfield 85, 3) := by decide +kernel
theorem dX8_add_49 : decode cX8_add 49 = .ok (.istore 5, 2) := by decide +kernel
theorem dX8_add_51 : decode cX8_add 51 = .ok (.aload_n 0, 1) := by decide +kernel
theorem dX8_add_52 : decode cX8_add 52 = .ok (.getfield 19, 3) := by decide +kernel
theorem dX8_add_55 : decode cX8_add 55 = .ok (.aload_n 0, 1) := by decide +kernel
theorem dX8_add_56 : decode cX8_add 56 = .ok (.getfield 10, 3) := by decide +kernel
theorem dX8_add_59 : decode cX8_add 59 = .ok (.iload 5, 2) := by decide +kernel
theorem dX8_add_61 : decode cX8_add 61 = .ok (.invokevirtual 89, 3) := by decide +kernel
theorem dX8_add_64 : decode cX8_add 64 = .ok (.aload_n 0, 1) := by decide +kernel
theorem dX8_add_65 : decode cX8_add 65 = .ok (.getfield 10, 3) := by decide +kernel
theorem dX8_add_68 : decode cX8_add 68 = .ok (.iload 5, 2) := by decide +kernel
theorem dX8_add_70 : decode cX8_add 70 = .ok (.iload_n 1, 1) := by decide +kernel
theorem dX8_add_71 : decode cX8_add 71 = .ok (.iload_n 2, 1) := by decide +kernel
theorem dX8_add_72 : decode cX8_add 72 = .ok (.iload_n 3, 1) := by decide +kernel
theorem dX8_add_73 : decode cX8_add 73 = .ok (.iload 4, 2) := by decide +kernel
theorem dX8_add_75 : decode cX8_add 75 = .ok (.invokevirtual 93, 3) := by decide +kernel
theorem dX8_add_78 : decode cX8_add 78 = .ok (.aload_n 0, 1) := by decide +kernel
theorem dX8_add_79 : decode cX8_add 79 = .ok (.getfield 10, 3) := by decide +kernel
theorem dX8_add_82 : decode cX8_add 82 = .ok (.iload 5, 2) := by decide +kernel
theorem dX8_add_84 : decode cX8_add 84 = .ok (.iconst 1, 1) := by decide +kernel
theorem dX8_add_85 : decode cX8_add 85 = .ok (.iadd, 1) := by decide +kernel
theorem dX8_add_86 : decode cX8_add 86 = .ok (.putfield 85, 3) := by decide +kernel
theorem dX8_add_89 : decode cX8_add 89 = .ok (.aload_n 0, 1) := by decide +kernel
theorem dX8_add_90 : decode cX8_add 90 = .ok (.getfield 26, 3) := by decide +kernel
theorem dX8_add_93 : decode cX8_add 93 = .ok (.aload_n 0, 1) := by decide +kernel
theorem dX8_add_94 : decode cX8_add 94 = .ok (.getfield 10, 3) := by decide +kernel
theorem dX8_add_97 : decode cX8_add 97 = .ok (.invokevirtual 97, 3) := by decide +kernel
theorem dX8_add_100 : decode cX8_add 100 = .ok (.iload 5, 2) := by decide +kernel
theorem dX8_add_102 : decode cX8_add 102 = .ok (.ireturn, 1) := by decide +kernel
abbrev rm_X8_add : Room := { frames := 4, cells := 0, slots := 0, locals := 86 }
theorem w_X8_add_e {X : gX} {σ : sg} {p1 : Int32} {p2 : Int32} {p3 : Int32} {p4 : Int32} {r0 : (Int32 × sg)} (C : gC X cX8_add 6 RX8 (some .int) rm_X8_add)  (hQ : gQ X (qI (XG X) r0.1 r0.2)) (hf : f_X8_add σ p1 p2 p3 p4 = some r0) : G X 6 σ 0 [(0, .ref (Xd X 0)), (1, .int p1), (2, .int p2), (3, .int p3), (4, .int p4)] [] := by
  unfold f_X8_add at hf
  refine g_iload_n C 1 dX8_add_0 rfl ?_
  refine g_iload_n C 2 dX8_add_1 rfl ?_
  refine g_iload_n C 3 dX8_add_2 rfl ?_
  refine g_iload C 4 dX8_add_3 rfl ?_
  obtain ⟨v5, h1, hf⟩ := g_bind hf
  refine g_callSi C 4 [.int p1, .int p2, .int p3, .int p4] (c_X6_isInstruction (Xl X) (gC_I C)  h1) ⟨wml_294, wst_295, win_2, wcd_296⟩ hd_X6_isInstruction ⟨rfl, rfl⟩ ⟨Nat.le_of_ble_eq_true rfl, Nat.le_of_ble_eq_true rfl⟩ rfl rfl (Nat.le_of_ble_eq_true rfl) dX8_add_5 ?_
  clear h1
  refine g_if_ne C 14 hf dX8_add_8 (by decide) (fun hf => ?_) (fun hf => ?_)
  · refine g_bipush C (v := (-2)) dX8_add_11 rfl ?_
    have e0 : r0 = ((-2 : Int32), σ) := (Option.some.inj hf).symm
    exact g_iret C rfl hQ (by rw [e0]) rfl dX8_add_13
  · refine g_aload_n C 0 dX8_add_14 rfl ?_
    refine g_getr C 8 5 (75) (by decide) sh_0 rfl vc_8 (by decide) inXX8 wfl_264 dX8_add_15 ?_
    refine g_getiN C 5 12 (by decide) sh_75 rfl vc_5 (by decide) inXX5 wfn_194 dX8_add_18 ?_
    refine g_if_eq C 27 hf dX8_add_21 (by decide) (fun hf => ?_) (fun hf => ?_)
    · refine g_aload_n C 0 dX8_add_27 rfl ?_
      refine g_getr C 8 0 (1) (by decide) sh_0 rfl vc_8 (by decide) inXX8 wfl_259 dX8_add_28 ?_
      refine g_getiN C 6 1 (by decide) sh_1 rfl vc_6 (by decide) inXX6 wfn_35 dX8_add_31 ?_
      refine g_bipush C (v := 40) dX8_add_34 rfl ?_
      refine g_icmp_lt C 42 hf dX8_add_36 (by decide) (fun hf => ?_) (fun hf => ?_)
      · refine g_aload_n C 0 dX8_add_42 rfl ?_
        refine g_getr C 8 0 (1) (by decide) sh_0 rfl vc_8 (by decide) inXX8 wfl_259 dX8_add_43 ?_
        refine g_getiN C 6 1 (by decide) sh_1 rfl vc_6 (by decide) inXX6 wfn_35 dX8_add_46 ?_
        refine g_istore C (lv' := [(5, .int (σ 1 1)), (0, .ref (Xd X 0)), (1, .int p1), (2, .int p2), (3, .int p3), (4, .int p4)]) dX8_add_49 (by decide) rfl ?_
        refine g_aload_n C 1 dX8_add_51 rfl ?_
        refine g_getr C 8 1 (43) (by decide) sh_0 rfl vc_8 (by decide) inXX8 wfl_260 dX8_add_52 ?_
        refine g_aload_n C 1 dX8_add_55 rfl ?_
        refine g_getr C 8 0 (1) (by decide) sh_0 rfl vc_8 (by decide) inXX8 wfl_259 dX8_add_56 ?_
        refine g_iload C 0 dX8_add_59 rfl ?_
        obtain ⟨s61, h1, hf⟩ := g_bind hf
        refine g_callVv C 2 [.ref (Xd X 1), .int (σ 1 1)] (c_X3_remember (Xl X) (gC_I C)  h1) ⟨wml_306, wim_307, wse_308, win_3, wcd_309⟩ (by decide) sh_43 vc_3 rfl hd_X3_remember ⟨rfl, rfl⟩ ⟨Nat.le_of_ble_eq_true rfl, Nat.le_of_ble_eq_true rfl⟩ rfl rfl (Nat.le_of_ble_eq_true rfl) dX8_add_61 ?_
        clear h1
        refine g_aload_n C 1 dX8_add_64 rfl ?_
        refine g_getr C 8 0 (1) (by decide) sh_0 rfl vc_8 (by decide) inXX8 wfl_259 dX8_add_65 ?_
        refine g_iload C 0 dX8_add_68 rfl ?_
        refine g_iload_n C 2 dX8_add_70 rfl ?_
        refine g_iload_n C 3 dX8_add_71 rfl ?_
        refine g_iload_n C 4 dX8_add_72 rfl ?_
        refine g_iload C 5 dX8_add_73 rfl ?_
        obtain ⟨s75, h1, hf⟩ := g_bind hf
        refine g_callVv C 5 [.int (σ 1 1), .int p1, .int p2, .int p3, .int p4] (c_X6_write (Xl X) (gC_I C)  h1) ⟨wml_316, wim_317, wse_318, win_2, wcd_319⟩ (by decide) sh_1 vc_6 rfl hd_X6_write ⟨rfl, rfl⟩ ⟨Nat.le_of_ble_eq_true rfl, Nat.le_of_ble_eq_true rfl⟩ rfl rfl (Nat.le_of_ble_eq_true rfl) dX8_add_75 ?_
        clear h1
        refine g_aload_n C 1 dX8_add_78 rfl ?_
        refine g_getr C 8 0 (1) (by decide) sh_0 rfl vc_8 (by decide) inXX8 wfl_259 dX8_add_79 ?_
        refine g_iload C 0 dX8_add_82 rfl ?_
        refine g_iconst C (v := 1) dX8_add_84 rfl ?_
        refine g_iadd C dX8_add_85 ?_
        obtain ⟨s86, h1, hf⟩ := g_bind hf
        refine g_putN C 6 1 (by decide) sh_1 rfl (by decide) vc_6 (by decide) tyX6 tyX6_ok nmX6 inXX6 wfn_35 rfl (ty := .int) (by decide +kernel) rfl rfl dX8_add_86 ?_
        rw [Option.some.inj h1]
        clear h1
        refine g_aload_n C 1 dX8_add_89 rfl ?_
        refine g_getr C 8 2 (57) (by decide) sh_0 rfl vc_8 (by decide) inXX8 wfl_261 dX8_add_90 ?_
        refine g_aload_n C 1 dX8_add_93 rfl ?_
        refine g_getr C 8 0 (1) (by decide) sh_0 rfl vc_8 (by decide) inXX8 wfl_259 dX8_add_94 ?_
        obtain ⟨s97, h1, hf⟩ := g_bind hf
        refine g_callVv C 1 [.ref (Xd X 1)] (c_X1_cut (Xl X) (gC_I C)  h1) ⟨wml_320, wim_321, wse_322, win_4, wcd_323⟩ (by decide) sh_57 vc_1 rfl hd_X1_cut ⟨rfl, rfl⟩ ⟨Nat.le_of_ble_eq_true rfl, Nat.le_of_ble_eq_true rfl⟩ rfl rfl (Nat.le_of_ble_eq_true rfl) dX8_add_97 ?_
        clear h1
        refine g_iload C 0 dX8_add_100 rfl ?_
        have e0 : r0 = (σ 1 1, s97) := (Option.some.inj hf).symm
        exact g_iret C rfl hQ (by rw [e0]) rfl dX8_add_102
      · refine g_bipush C (v := (-3)) dX8_add_39 rfl ?_
        have e0 : r0 = ((-3 : Int32), σ) := (Option.some.inj hf).symm
        exact g_iret C rfl hQ (by rw [e0]) rfl dX8_add_41
    · refine g_bipush C (v := (-5)) dX8_add_24 rfl ?_
      have e0 : r0 = ((-5 : Int32), σ) := (Option.some.inj hf).symm
      exact g_iret C rfl hQ (by rw [e0]) rfl dX8_add_26
theorem c_X8_add (l : Launch) {Gw : gW} (hI : g_I Gw) {σ : sg} {p1 : Int32} {p2 : Int32} {p3 : Int32} {p4 : Int32} {r : (Int32 × sg)}  (hf : f_X8_add σ p1 p2 p3 p4 = some r) : gM l Gw yX8_add cX8_add 6 (some .int) rm_X8_add [.ref (Gw.2.2 0), .int p1, .int p2, .int p3, .int p4] σ (qI (Gw) r.1 r.2) := by
  refine g_met hI (by decide) (Nat.le_of_ble_eq_true rfl) (fun X h1 h2 C hQ => ?_)
  subst h1; subst h2
  exact w_X8_add_e C  hQ hf
theorem dX8_set_0 : decode cX8_set 0 = .ok (.aload_n 0, 1) := by decide +kernel
theorem dX8_set_1 : decode cX8_set 1 = .ok (.getfield 10, 3) := by decide +kernel
theorem dX8_set_4 : decode cX8_set 4 = .ok (.iload_n 1, 1) := by decide +kernel
theorem dX8_set_5 : decode cX8_set 5 = .ok (.invokevirtual 100, 3) := by decide +kernel
theorem dX8_set_8 : decode cX8_set 8 = .ok (.ifCond .ne 5, 3) := by decide +kernel
theorem dX8_set_11 : decode cX8_set 11 = .ok (.iconst (-1), 1) := by decide +kernel
theorem dX8_set_12 : decode cX8_set 12 = .ok (.ireturn, 1) := by decide +kernel
theorem dX8_set_13 : decode cX8_set 13 = .ok (.iload_n 2, 1) := by decide +kernel
theorem dX8_set_14 : decode cX8_set 14 = .ok (.iload_n 3, 1) := by decide +kernel
theorem dX8_set_15 : decode cX8_set 15 = .ok (.iload 4, 2) := by decide +kernel
theorem dX8_set_17 : decode cX8_set 17 = .ok (.iload 5, 2) := by decide +kernel
theorem dX8_set_19 : decode cX8_set 19 = .ok (.invokestatic 77, 3) := by decide +kernel
theorem dX8_set_22 : decode cX8_set 22 = .ok (.ifCond .ne 6, 3) := by decide +kernel
theorem dX8_set_25 : decode cX8_set 25 = .ok (.bipush (-2), 2) := by decide +kernel
theorem dX8_set_27 : decode cX8_set 27 = .ok (.ireturn, 1) := by decide +kernel
theorem dX8_set_28 : decode cX8_set 28 = .ok (.aload_n 0, 1) := by decide +kernel
theorem dX8_set_29 : decode cX8_set 29 = .ok (.getfield 51, 3) := by decide +kernel
theorem dX8_set_32 : decode cX8_set 32 = .ok (.getfield 81, 3) := by decide +kernel
theorem dX8_set_35 : decode cX8_set 35 = .ok (.ifCond .eq 6, 3) := by decide +kernel
theorem dX8_set_38 : decode cX8_set 38 = .ok (.bipush (-5), 2) := by decide +kernel
theorem dX8_set_40 : decode cX8_set 40 = .ok (.ireturn, 1) := by decide +kernel
theorem dX8_set_41 : decode cX8_set 41 = .ok (.aload_n 0, 1) := by decide +kernel
theorem dX8_set_42 : decode cX8_set 42 = .ok (.getfield 10, 3) := by decide +kernel
theorem dX8_set_45 : decode cX8_set 45 = .ok (.iload_n 1, 1) := by decide +kernel
theorem dX8_set_46 : decode cX8_set 46 = .ok (.invokevirtual 104, 3) := by decide +kernel
theorem dX8_set_49 : decode cX8_set 49 = .ok (.istore 6, 2) := by decide +kernel
theorem dX8_set_51 : decode cX8_set 51 = .ok (.aload_n 0, 1) := by decide +kernel
theorem dX8_set_52 : decode cX8_set 52 = .ok (.getfield 19, 3) := by decide +kernel
theorem dX8_set_55 : decode cX8_set 55 = .ok (.aload_n 0, 1) := by decide +kernel
theorem dX8_set_56 : decode cX8_set 56 = .ok (.getfield 10, 3) := by decide +kernel
theorem dX8_set_59 : decode cX8_set 59 = .ok (.iload_n 1, 1) := by decide +kernel
theorem dX8_set_60 : decode cX8_set 60 = .ok (.invokevirtual 89, 3) := by decide +kernel
theorem dX8_set_63 : decode cX8_set 63 = .ok (.aload_n 0, 1) := by decide +kernel
theorem dX8_set_64 : decode cX8_set 64 = .ok (.getfield 10, 3) := by decide +kernel
theorem dX8_set_67 : decode cX8_set 67 = .ok (.iload_n 1, 1) := by decide +kernel
theorem dX8_set_68 : decode cX8_set 68 = .ok (.iload_n 2, 1) := by decide +kernel
theorem dX8_set_69 : decode cX8_set 69 = .ok (.iload_n 3, 1) := by decide +kernel
theorem dX8_set_70 : decode cX8_set 70 = .ok (.iload 4, 2) := by decide +kernel
theorem dX8_set_72 : decode cX8_set 72 = .ok (.iload 5, 2) := by decide +kernel
theorem dX8_set_74 : decode cX8_set 74 = .ok (.invokevirtual 93, 3) := by decide +kernel
theorem dX8_set_77 : decode cX8_set 77 = .ok (.aload_n 0, 1) := by decide +kernel
theorem dX8_set_78 : decode cX8_set 78 = .ok (.getfield 26, 3) := by decide +kernel
theorem dX8_set_81 : decode cX8_set 81 = .ok (.aload_n 0, 1) := by decide +kernel
theorem dX8_set_82 : decode cX8_set 82 = .ok (.getfield 10, 3) := by decide +kernel
theorem dX8_set_85 : decode cX8_set 85 = .ok (.invokevirtual 97, 3) := by decide +kernel
theorem dX8_set_88 : decode cX8_set 88 = .ok (.iload 6, 2) := by decide +kernel
theorem dX8_set_90 : decode cX8_set 90 = .ok (.ireturn, 1) := by decide +kernel
abbrev rm_X8_set : Room := { frames := 4, cells := 0, slots := 0, locals := 86 }
theorem w_X8_set_e {X : gX} {σ : sg} {p1 : Int32} {p2 : Int32} {p3 : Int32} {p4 : Int32} {p5 : Int32} {r0 : (Int32 × sg)} (C : gC X cX8_set 7 RX8 (some .int) rm_X8_set)  (hQ : gQ X (qI (XG X) r0.1 r0.2)) (hf : f_X8_set σ p1 p2 p3 p4 p5 = some r0) : G X 7 σ 0 [(0, .ref (Xd X 0)), (1, .int p1), (2, .int p2), (3, .int p3), (4, .int p4), (5, .int p5)] [] := by
  unfold f_X8_set at hf
  refine g_aload_n C 0 dX8_set_0 rfl ?_
  refine g_getr C 8 0 (1) (by decide) sh_0 rfl vc_8 (by decide) inXX8 wfl_259 dX8_set_1 ?_
  refine g_iload_n C 1 dX8_set_4 rfl ?_
  obtain ⟨v5, h1, hf⟩ := g_bind hf
  refine g_callVi C 1 [.int p1] (c_X6_has (Xl X) (gC_I C)  h1) ⟨wml_359, wim_340, wse_341, win_2, wcd_342⟩ (by decide) sh_1 vc_6 rfl hd_X6_has ⟨rfl, rfl⟩ ⟨Nat.le_of_ble_eq_true rfl, Nat.le_of_ble_eq_true rfl⟩ rfl rfl (Nat.le_of_ble_eq_true rfl) dX8_set_5 ?_
  clear h1
  refine g_if_ne C 13 hf dX8_set_8 (by decide) (fun hf => ?_) (fun hf => ?_)
  · refine g_iconst C (v := (-1)) dX8_set_11 rfl ?_
    have e0 : r0 = ((-1 : Int32), σ) := (Option.some.inj hf).symm
    exact g_iret C rfl hQ (by rw [e0]) rfl dX8_set_12
  · refine g_iload_n C 2 dX8_set_13 rfl ?_
    refine g_iload_n C 3 dX8_set_14 rfl ?_
    refine g_iload C 4 dX8_set_15 rfl ?_
    refine g_iload C 5 dX8_set_17 rfl ?_
    obtain ⟨v19, h1, hf⟩ := g_bind hf
    refine g_callSi C 4 [.int p2, .int p3, .int p4, .int p5] (c_X6_isInstruction (Xl X) (gC_I C)  h1) ⟨wml_294, wst_295, win_2, wcd_296⟩ hd_X6_isInstruction ⟨rfl, rfl⟩ ⟨Nat.le_of_ble_eq_true rfl, Nat.le_of_ble_eq_true rfl⟩ rfl rfl (Nat.le_of_ble_eq_true rfl) dX8_set_19 ?_
    clear h1
    refine g_if_ne C 28 hf dX8_set_22 (by decide) (fun hf => ?_) (fun hf => ?_)
    · refine g_bipush C (v := (-2)) dX8_set_25 rfl ?_
      have e0 : r0 = ((-2 : Int32), σ) := (Option.some.inj hf).symm
      exact g_iret C rfl hQ (by rw [e0]) rfl dX8_set_27
    · refine g_aload_n C 0 dX8_set_28 rfl ?_
      refine g_getr C 8 5 (75) (by decide) sh_0 rfl vc_8 (by decide) inXX8 wfl_264 dX8_set_29 ?_
      refine g_getiN C 5 12 (by decide) sh_75 rfl vc_5 (by decide) inXX5 wfn_194 dX8_set_32 ?_
      refine g_if_eq C 41 hf dX8_set_35 (by decide) (fun hf => ?_) (fun hf => ?_)
      · refine g_aload_n C 0 dX8_set_41 rfl ?_
        refine g_getr C 8 0 (1) (by decide) sh_0 rfl vc_8 (by decide) inXX8 wfl_259 dX8_set_42 ?_
        refine g_iload_n C 1 dX8_set_45 rfl ?_
        obtain ⟨v46, h1, hf⟩ := g_bind hf
        refine g_callVi C 1 [.int p1] (c_X6_operationOf (Xl X) (gC_I C)  h1) ⟨wml_360, wim_332, wse_333, win_2, wcd_334⟩ (by decide) sh_1 vc_6 rfl hd_X6_operationOf ⟨rfl, rfl⟩ ⟨Nat.le_of_ble_eq_true rfl, Nat.le_of_ble_eq_true rfl⟩ rfl rfl (Nat.le_of_ble_eq_true rfl) dX8_set_46 ?_
        clear h1
        refine g_istore C (lv' := [(6, .int v46), (0, .ref (Xd X 0)), (1, .int p1), (2, .int p2), (3, .int p3), (4, .int p4), (5, .int p5)]) dX8_set_49 (by decide) rfl ?_
        refine g_aload_n C 1 dX8_set_51 rfl ?_
        refine g_getr C 8 1 (43) (by decide) sh_0 rfl vc_8 (by decide) inXX8 wfl_260 dX8_set_52 ?_
        refine g_aload_n C 1 dX8_set_55 rfl ?_
        refine g_getr C 8 0 (1) (by decide) sh_0 rfl vc_8 (by decide) inXX8 wfl_259 dX8_set_56 ?_
        refine g_iload_n C 2 dX8_set_59 rfl ?_
        obtain ⟨s60, h1, hf⟩ := g_bind hf
        refine g_callVv C 2 [.ref (Xd X 1), .int p1] (c_X3_remember (Xl X) (gC_I C)  h1) ⟨wml_306, wim_307, wse_308, win_3, wcd_309⟩ (by decide) sh_43 vc_3 rfl hd_X3_remember ⟨rfl, rfl⟩ ⟨Nat.le_of_ble_eq_true rfl, Nat.le_of_ble_eq_true rfl⟩ rfl rfl (Nat.le_of_ble_eq_true rfl) dX8_set_60 ?_
        clear h1
        refine g_aload_n C 1 dX8_set_63 rfl ?_
        refine g_getr C 8 0 (1) (by decide) sh_0 rfl vc_8 (by decide) inXX8 wfl_259 dX8_set_64 ?_
        refine g_iload_n C 2 dX8_set_67 rfl ?_
        refine g_iload_n C 3 dX8_set_68 rfl ?_
        refine g_iload_n C 4 dX8_set_69 rfl ?_
        refine g_iload C 5 dX8_set_70 rfl ?_
        refine g_iload C 6 dX8_set_72 rfl ?_
        obtain ⟨s74, h1, hf⟩ := g_bind hf
        refine g_callVv C 5 [.int p1, .int p2, .int p3, .int p4, .int p5] (c_X6_write (Xl X) (gC_I C)  h1) ⟨wml_316, wim_317, wse_318, win_2, wcd_319⟩ (by decide) sh_1 vc_6 rfl hd_X6_write ⟨rfl, rfl⟩ ⟨Nat.le_of_ble_eq_true rfl, Nat.le_of_ble_eq_true rfl⟩ rfl rfl (Nat.le_of_ble_eq_true rfl) dX8_set_74 ?_
        clear h1
        refine g_aload_n C 1 dX8_set_77 rfl ?_
        refine g_getr C 8 2 (57) (by decide) sh_0 rfl vc_8 (by decide) inXX8 wfl_261 dX8_set_78 ?_
        refine g_aload_n C 1 dX8_set_81 rfl ?_
        refine g_getr C 8 0 (1) (by decide) sh_0 rfl vc_8 (by decide) inXX8 wfl_259 dX8_set_82 ?_
        obtain ⟨s85, h1, hf⟩ := g_bind hf
        refine g_callVv C 1 [.ref (Xd X 1)] (c_X1_cut (Xl X) (gC_I C)  h1) ⟨wml_320, wim_321, wse_322, win_4, wcd_323⟩ (by decide) sh_57 vc_1 rfl hd_X1_cut ⟨rfl, rfl⟩ ⟨Nat.le_of_ble_eq_true rfl, Nat.le_of_ble_eq_true rfl⟩ rfl rfl (Nat.le_of_ble_eq_true rfl) dX8_set_85 ?_
        clear h1
        refine g_iload C 0 dX8_set_88 rfl ?_
        have e0 : r0 = (v46, s85) := (Option.some.inj hf).symm
        exact g_iret C rfl hQ (by rw [e0]) rfl dX8_set_90
      · refine g_bipush C (v := (-5)) dX8_set_38 rfl ?_
        have e0 : r0 = ((-5 : Int32), σ) := (Option.some.inj hf).symm
        exact g_iret C rfl hQ (by rw [e0]) rfl dX8_set_40
theorem c_X8_set (l : Launch) {Gw : gW} (hI : g_I Gw) {σ : sg} {p1 : Int32} {p2 : Int32} {p3 : Int32} {p4 : Int32} {p5 : Int32} {r : (Int32 × sg)}  (hf : f_X8_set σ p1 p2 p3 p4 p5 = some r) : gM l Gw yX8_set cX8_set 7 (some .int) rm_X8_set [.ref (Gw.2.2 0), .int p1, .int p2, .int p3, .int p4, .int p5] σ (qI (Gw) r.1 r.2) := by
  refine g_met hI (by decide) (Nat.le_of_ble_eq_true rfl) (fun X h1 h2 C hQ => ?_)
  subst h1; subst h2
  exact w_X8_set_e C  hQ hf
theorem dX8_removeLast_0 : decode cX8_removeLast 0 = .ok (.aload_n 0, 1) := by decide +kernel
theorem dX8_removeLast_1 : decode cX8_removeLast 1 = .ok (.getfield 51, 3) := by decide +kernel
theorem dX8_removeLast_4 : decode cX8_removeLast 4 = .ok (.getfield 81, 3) := by decide +kernel
theorem dX8_removeLast_7 : decode cX8_removeLast 7 = .ok (.ifCond .eq 6, 3) := by decide +kernel
theorem dX8_removeLast_10 : decode cX8_removeLast 10 = .ok (.bipush (-5), 2) := by decide +kernel
theorem dX8_removeLast_12 : decode cX8_removeLast 12 = .ok (.ireturn, 1) := by decide +kernel
theorem dX8_removeLast_13 : decode cX8_removeLast 13 = .ok (.aload_n 0, 1) := by decide +kernel
theorem dX8_removeLast_14 : decode cX8_removeLast 14 = .ok (.getfield 10, 3) := by decide +kernel
theorem dX8_removeLast_17 : decode cX8_removeLast 17 = .ok (.getfield 85, 3) := by decide +kernel
theorem dX8_removeLast_20 : decode cX8_removeLast 20 = .ok (.ifCond .ne 6, 3) := by decide +kernel
theorem dX8_removeLast_23 : decode cX8_removeLast 23 = .ok (.bipush (-4), 2) := by decide +kernel
theorem dX8_removeLast_25 : decode cX8_removeLast 25 = .ok (.ireturn, 1) := by decide +kernel
theorem dX8_removeLast_26 : decode cX8_removeLast 26 = .ok (.aload_n 0, 1) := by decide +kernel
theorem dX8_removeLast_27 : decode cX8_removeLast 27 = .ok (.getfield 10, 3) := by decide +kernel
theorem dX8_removeLast_30 : decode cX8_removeLast 30 = .ok (.getfield 85, 3) := by decide +kernel
theorem dX8_removeLast_33 : decode cX8_removeLast 33 = .ok (.iconst 1, 1) := by decide +kernel
theorem dX8_removeLast_34 : decode cX8_removeLast 34 = .ok (.isub, 1) := by decide +kernel
theorem dX8_removeLast_35 : decode cX8_removeLast 35 = .ok (.istore_n 1, 1) := by decide +kernel
theorem dX8_removeLast_36 : decode cX8_removeLast 36 = .ok (.aload_n 0, 1) := by decide +kernel
theorem dX8_removeLast_37 : decode cX8_removeLast 37 = .ok (.getfield 19, 3) := by decide +kernel
theorem dX8_removeLast_40 : decode cX8_removeLast 40 = .ok (.aload_n 0, 1) := by decide +kernel
theorem dX8_removeLast_41 : decode cX8_removeLast 41 = .ok (.getfield 10, 3) := by decide +kernel
theorem dX8_removeLast_44 : decode cX8_removeLast 44 = .ok (.iload_n 1, 1) := by decide +kernel
theorem dX8_removeLast_45 : decode cX8_removeLast 45 = .ok (.invokevirtual 89, 3) := by decide +kernel
theorem dX8_removeLast_48 : decode cX8_removeLast 48 = .ok (.aload_n 0, 1) := by decide +kernel
theorem dX8_removeLast_49 : decode cX8_removeLast 49 = .ok (.getfield 10, 3) := by decide +kernel
theorem dX8_removeLast_52 : decode cX8_removeLast 52 = .ok (.iload_n 1, 1) := by decide +kernel
theorem dX8_removeLast_53 : decode cX8_removeLast 53 = .ok (.putfield 85, 3) := by decide +kernel
theorem dX8_removeLast_56 : decode cX8_removeLast 56 = .ok (.aload_n 0, 1) := by decide +kernel
theorem dX8_removeLast_57 : decode cX8_removeLast 57 = .ok (.getfield 26, 3) := by decide +kernel
theorem dX8_removeLast_60 : decode cX8_removeLast 60 = .ok (.aload_n 0, 1) := by decide +kernel
theorem dX8_removeLast_61 : decode cX8_removeLast 61 = .ok (.getfield 10, 3) := by decide +kernel
theorem dX8_removeLast_64 : decode cX8_removeLast 64 = .ok (.invokevirtual 97, 3) := by decide +kernel
theorem dX8_removeLast_67 : decode cX8_removeLast 67 = .ok (.iload_n 1, 1) := by decide +kernel
theorem dX8_removeLast_68 : decode cX8_removeLast 68 = .ok (.ireturn, 1) := by decide +kernel
abbrev rm_X8_removeLast : Room := { frames := 4, cells := 0, slots := 0, locals := 86 }
theorem w_X8_removeLast_e {X : gX} {σ : sg}  {r0 : (Int32 × sg)} (C : gC X cX8_removeLast 2 RX8 (some .int) rm_X8_removeLast)  (hQ : gQ X (qI (XG X) r0.1 r0.2)) (hf : f_X8_removeLast σ = some r0) : G X 2 σ 0 [(0, .ref (Xd X 0))] [] := by
  unfold f_X8_removeLast at hf
  refine g_aload_n C 0 dX8_removeLast_0 rfl ?_
  refine g_getr C 8 5 (75) (by decide) sh_0 rfl vc_8 (by decide) inXX8 wfl_264 dX8_removeLast_1 ?_
  refine g_getiN C 5 12 (by decide) sh_75 rfl vc_5 (by decide) inXX5 wfn_194 dX8_removeLast_4 ?_
  refine g_if_eq C 13 hf dX8_removeLast_7 (by decide) (fun hf => ?_) (fun hf => ?_)
  · refine g_aload_n C 0 dX8_removeLast_13 rfl ?_
    refine g_getr C 8 0 (1) (by decide) sh_0 rfl vc_8 (by decide) inXX8 wfl_259 dX8_removeLast_14 ?_
    refine g_getiN C 6 1 (by decide) sh_1 rfl vc_6 (by decide) inXX6 wfn_35 dX8_removeLast_17 ?_
    refine g_if_ne C 26 hf dX8_removeLast_20 (by decide) (fun hf => ?_) (fun hf => ?_)
    · refine g_bipush C (v := (-4)) dX8_removeLast_23 rfl ?_
      have e0 : r0 = ((-4 : Int32), σ) := (Option.some.inj hf).symm
      exact g_iret C rfl hQ (by rw [e0]) rfl dX8_removeLast_25
    · refine g_aload_n C 0 dX8_removeLast_26 rfl ?_
      refine g_getr C 8 0 (1) (by decide) sh_0 rfl vc_8 (by decide) inXX8 wfl_259 dX8_removeLast_27 ?_
      refine g_getiN C 6 1 (by decide) sh_1 rfl vc_6 (by decide) inXX6 wfn_35 dX8_removeLast_30 ?_
      refine g_iconst C (v := 1) dX8_removeLast_33 rfl ?_
      refine g_isub C dX8_removeLast_34 ?_
      refine g_istore_n C (lv' := [(1, .int ((σ 1 1) - (1 : Int32))), (0, .ref (Xd X 0))]) dX8_removeLast_35 (by decide) rfl ?_
      refine g_aload_n C 1 dX8_removeLast_36 rfl ?_
      refine g_getr C 8 1 (43) (by decide) sh_0 rfl vc_8 (by decide) inXX8 wfl_260 dX8_removeLast_37 ?_
      refine g_aload_n C 1 dX8_removeLast_40 rfl ?_
      refine g_getr C 8 0 (1) (by decide) sh_0 rfl vc_8 (by decide) inXX8 wfl_259 dX8_removeLast_41 ?_
      refine g_iload_n C 0 dX8_removeLast_44 rfl ?_
      obtain ⟨s45, h1, hf⟩ := g_bind hf
      refine g_callVv C 2 [.ref (Xd X 1), .int ((σ 1 1) - (1 : Int32))] (c_X3_remember (Xl X) (gC_I C)  h1) ⟨wml_306, wim_307, wse_308, win_3, wcd_309⟩ (by decide) sh_43 vc_3 rfl hd_X3_remember ⟨rfl, rfl⟩ ⟨Nat.le_of_ble_eq_true rfl, Nat.le_of_ble_eq_true rfl⟩ rfl rfl (Nat.le_of_ble_eq_true rfl) dX8_removeLast_45 ?_
      clear h1
      refine g_aload_n C 1 dX8_removeLast_48 rfl ?_
      refine g_getr C 8 0 (1) (by decide) sh_0 rfl vc_8 (by decide) inXX8 wfl_259 dX8_removeLast_49 ?_
      refine g_iload_n C 0 dX8_removeLast_52 rfl ?_
      obtain ⟨s53, h1, hf⟩ := g_bind hf
      refine g_putN C 6 1 (by decide) sh_1 rfl (by decide) vc_6 (by decide) tyX6 tyX6_ok nmX6 inXX6 wfn_35 rfl (ty := .int) (by decide +kernel) rfl rfl dX8_removeLast_53 ?_
      rw [Option.some.inj h1]
      clear h1
      refine g_aload_n C 1 dX8_removeLast_56 rfl ?_
      refine g_getr C 8 2 (57) (by decide) sh_0 rfl vc_8 (by decide) inXX8 wfl_261 dX8_removeLast_57 ?_
      refine g_aload_n C 1 dX8_removeLast_60 rfl ?_
      refine g_getr C 8 0 (1) (by decide) sh_0 rfl vc_8 (by decide) inXX8 wfl_259 dX8_removeLast_61 ?_
      obtain ⟨s64, h1, hf⟩ := g_bind hf
      refine g_callVv C 1 [.ref (Xd X 1)] (c_X1_cut (Xl X) (gC_I C)  h1) ⟨wml_320, wim_321, wse_322, win_4, wcd_323⟩ (by decide) sh_57 vc_1 rfl hd_X1_cut ⟨rfl, rfl⟩ ⟨Nat.le_of_ble_eq_true rfl, Nat.le_of_ble_eq_true rfl⟩ rfl rfl (Nat.le_of_ble_eq_true rfl) dX8_removeLast_64 ?_
      clear h1
      refine g_iload_n C 0 dX8_removeLast_67 rfl ?_
      have e0 : r0 = ((σ 1 1) - (1 : Int32), s64) := (Option.some.inj hf).symm
      exact g_iret C rfl hQ (by rw [e0]) rfl dX8_removeLast_68
  · refine g_bipush C (v := (-5)) dX8_removeLast_10 rfl ?_
    have e0 : r0 = ((-5 : Int32), σ) := (Option.some.inj hf).symm
    exact g_iret C rfl hQ (by rw [e0]) rfl dX8_removeLast_12
theorem c_X8_removeLast (l : Launch) {Gw : gW} (hI : g_I Gw) {σ : sg}  {r : (Int32 × sg)}  (hf : f_X8_removeLast σ = some r) : gM l Gw yX8_removeLast cX8_removeLast 2 (some .int) rm_X8_removeLast [.ref (Gw.2.2 0)] σ (qI (Gw) r.1 r.2) := by
  refine g_met hI (by decide) (Nat.le_of_ble_eq_true rfl) (fun X h1 h2 C hQ => ?_)
  subst h1; subst h2
  exact w_X8_removeLast_e C  hQ hf
theorem dX8_size_0 : decode cX8_size 0 = .ok (.aload_n 0, 1) := by decide +kernel
theorem dX8_size_1 : decode cX8_size 1 = .ok (.getfield 10, 3) := by decide +kernel
theorem dX8_size_4 : decode cX8_size 4 = .ok (.getfield 85, 3) := by decide +kernel
theorem dX8_size_7 : decode cX8_size 7 = .ok (.ireturn, 1) := by decide +kernel
abbrev rm_X8_size : Room := { frames := 0, cells := 0, slots := 0, locals := 0 }
theorem w_X8_size_e {X : gX} {σ : sg}  {r0 : Int32} (C : gC X cX8_size 1 RX8 (some .int) rm_X8_size)  (hQ : gQ X (qI (XG X) r0 σ)) (hf : f_X8_size σ = some r0) : G X 1 σ 0 [(0, .ref (Xd X 0))] [] := by
  unfold f_X8_size at hf
  refine g_aload_n C 0 dX8_size_0 rfl ?_
  refine g_getr C 8 0 (1) (by decide) sh_0 rfl vc_8 (by decide) inXX8 wfl_259 dX8_size_1 ?_
  refine g_getiN C 6 1 (by decide) sh_1 rfl vc_6 (by decide) inXX6 wfn_35 dX8_size_4 ?_
  have e0 : r0 = σ 1 1 := (Option.some.inj hf).symm
  exact g_iret C rfl hQ (by rw [e0]) rfl dX8_size_7
theorem c_X8_size (l : Launch) {Gw : gW} (hI : g_I Gw) {σ : sg}  {r : Int32}  (hf : f_X8_size σ = some r) : gM l Gw yX8_size cX8_size 1 (some .int) rm_X8_size [.ref (Gw.2.2 0)] σ (qI (Gw) r σ) := by
  refine g_met hI (by decide) (Nat.le_of_ble_eq_true rfl) (fun X h1 h2 C hQ => ?_)
  subst h1; subst h2
  exact w_X8_size_e C  hQ hf
theorem dX8_part_0 : decode cX8_part 0 = .ok (.aload_n 0, 1) := by decide +kernel
theorem dX8_part_1 : decode cX8_part 1 = .ok (.getfield 10, 3) := by decide +kernel
theorem dX8_part_4 : decode cX8_part 4 = .ok (.iload_n 1, 1) := by decide +kernel
theorem dX8_part_5 : decode cX8_part 5 = .ok (.invokevirtual 100, 3) := by decide +kernel
theorem dX8_part_8 : decode cX8_part 8 = .ok (.ifCond .ne 5, 3) := by decide +kernel
theorem dX8_part_11 : decode cX8_part 11 = .ok (.iconst (-1), 1) := by decide +kernel
theorem dX8_part_12 : decode cX8_part 12 = .ok (.ireturn, 1) := by decide +kernel
theorem dX8_part_13 : decode cX8_part 13 = .ok (.iload_n 2, 1) := by decide +kernel
theorem dX8_part_14 : decode cX8_part 14 = .ok (.ifCond .lt 8, 3) := by decide +kernel
theorem dX8_part_17 : decode cX8_part 17 = .ok (.iload_n 2, 1) := by decide +kernel
theorem dX8_part_18 : decode cX8_part 18 = .ok (.iconst 4, 1) := by decide +kernel
theorem dX8_part_19 : decode cX8_part 19 = .ok (.if_icmp .lt 6, 3) := by decide +kernel
theorem dX8_part_22 : decode cX8_part 22 = .ok (.bipush (-2), 2) := by decide +kernel
theorem dX8_part_24 : decode cX8_part 24 = .ok (.ireturn, 1) := by decide +kernel
theorem dX8_part_25 : decode cX8_part 25 = .ok (.aload_n 0, 1) := by decide +kernel
theorem dX8_part_26 : decode cX8_part 26 = .ok (.getfield 10, 3) := by decide +kernel
theorem dX8_part_29 : decode cX8_part 29 = .ok (.getfield 108, 3) := by decide +kernel
theorem dX8_part_32 : decode cX8_part 32 = .ok (.iload_n 1, 1) := by decide +kernel
theorem dX8_part_33 : decode cX8_part 33 = .ok (.aaload, 1) := by decide +kernel
theorem dX8_part_34 : decode cX8_part 34 = .ok (.iload_n 2, 1) := by decide +kernel
theorem dX8_part_35 : decode cX8_part 35 = .ok (.iaload, 1) := by decide +kernel
theorem dX8_part_36 : decode cX8_part 36 = .ok (.sipush 1000, 3) := by decide +kernel
theorem dX8_part_39 : decode cX8_part 39 = .ok (.iadd, 1) := by decide +kernel
theorem dX8_part_40 : decode cX8_part 40 = .ok (.ireturn, 1) := by decide +kernel
abbrev rm_X8_part : Room := { frames := 1, cells := 0, slots := 0, locals := 21 }
theorem w_X8_part_e {X : gX} {σ : sg} {p1 : Int32} {p2 : Int32} {r0 : Int32} (C : gC X cX8_part 3 RX8 (some .int) rm_X8_part)  (hQ : gQ X (qI (XG X) r0 σ)) (hf : f_X8_part σ p1 p2 = some r0) : G X 3 σ 0 [(0, .ref (Xd X 0)), (1, .int p1), (2, .int p2)] [] := by
  unfold f_X8_part at hf
  refine g_aload_n C 0 dX8_part_0 rfl ?_
  refine g_getr C 8 0 (1) (by decide) sh_0 rfl vc_8 (by decide) inXX8 wfl_259 dX8_part_1 ?_
  refine g_iload_n C 1 dX8_part_4 rfl ?_
  obtain ⟨v5, h1, hf⟩ := g_bind hf
  refine g_callVi C 1 [.int p1] (c_X6_has (Xl X) (gC_I C)  h1) ⟨wml_359, wim_340, wse_341, win_2, wcd_342⟩ (by decide) sh_1 vc_6 rfl hd_X6_has ⟨rfl, rfl⟩ ⟨Nat.le_of_ble_eq_true rfl, Nat.le_of_ble_eq_true rfl⟩ rfl rfl (Nat.le_of_ble_eq_true rfl) dX8_part_5 ?_
  clear h1
  refine g_if_ne C 13 hf dX8_part_8 (by decide) (fun hf => ?_) (fun hf => ?_)
  · refine g_iconst C (v := (-1)) dX8_part_11 rfl ?_
    have e0 : r0 = (-1 : Int32) := (Option.some.inj hf).symm
    exact g_iret C rfl hQ (by rw [e0]) rfl dX8_part_12
  · refine g_iload_n C 2 dX8_part_13 rfl ?_
    refine g_if_lt C 22 hf dX8_part_14 (by decide) (fun hf => ?_) (fun hf => ?_)
    · refine g_bipush C (v := (-2)) dX8_part_22 rfl ?_
      have e0 : r0 = (-2 : Int32) := (Option.some.inj hf).symm
      exact g_iret C rfl hQ (by rw [e0]) rfl dX8_part_24
    · refine g_iload_n C 2 dX8_part_17 rfl ?_
      refine g_iconst C (v := 4) dX8_part_18 rfl ?_
      refine g_icmp_lt C 25 hf dX8_part_19 (by decide) (fun hf => ?_) (fun hf => ?_)
      · refine g_aload_n C 0 dX8_part_25 rfl ?_
        refine g_getr C 8 0 (1) (by decide) sh_0 rfl vc_8 (by decide) inXX8 wfl_259 dX8_part_26 ?_
        refine g_getrN C 6 0 (2) (by decide) sh_1 rfl vc_6 (by decide) inXX6 wfn_33 dX8_part_29 ?_
        refine g_iload_n C 1 dX8_part_32 rfl ?_
        obtain ⟨q33, h1, hf⟩ := g_bind hf
        refine g_aald C h1 dX8_part_33 ?_
        clear h1
        refine g_iload_n C 2 dX8_part_34 rfl ?_
        obtain ⟨v35, h1, hf⟩ := g_bind hf
        refine g_iald C h1 dX8_part_35 ?_
        clear h1
        refine g_sipush C (v := 1000) dX8_part_36 rfl ?_
        refine g_iadd C dX8_part_39 ?_
        have e0 : r0 = v35 + (1000 : Int32) := (Option.some.inj hf).symm
        exact g_iret C rfl hQ (by rw [e0]) rfl dX8_part_40
      · refine g_bipush C (v := (-2)) dX8_part_22 rfl ?_
        have e0 : r0 = (-2 : Int32) := (Option.some.inj hf).symm
        exact g_iret C rfl hQ (by rw [e0]) rfl dX8_part_24
theorem c_X8_part (l : Launch) {Gw : gW} (hI : g_I Gw) {σ : sg} {p1 : Int32} {p2 : Int32} {r : Int32}  (hf : f_X8_part σ p1 p2 = some r) : gM l Gw yX8_part cX8_part 3 (some .int) rm_X8_part [.ref (Gw.2.2 0), .int p1, .int p2] σ (qI (Gw) r σ) := by
  refine g_met hI (by decide) (Nat.le_of_ble_eq_true rfl) (fun X h1 h2 C hQ => ?_)
  subst h1; subst h2
  exact w_X8_part_e C  hQ hf
theorem dX8_undo_0 : decode cX8_undo 0 = .ok (.aload_n 0, 1) := by decide +kernel
theorem dX8_undo_1 : decode cX8_undo 1 = .ok (.getfield 51, 3) := by decide +kernel
theorem dX8_undo_4 : decode cX8_undo 4 = .ok (.getfield 81, 3) := by decide +kernel
theorem dX8_undo_7 : decode cX8_undo 7 = .ok (.ifCond .eq 6, 3) := by decide +kernel
theorem dX8_undo_10 : decode cX8_undo 10 = .ok (.bipush (-5), 2) := by decide +kernel
theorem dX8_undo_12 : decode cX8_undo 12 = .ok (.ireturn, 1) := by decide +kernel
theorem dX8_undo_13 : decode cX8_undo 13 = .ok (.aload_n 0, 1) := by decide +kernel
theorem dX8_undo_14 : decode cX8_undo 14 = .ok (.getfield 19, 3) := by decide +kernel
theorem dX8_undo_17 : decode cX8_undo 17 = .ok (.getfield 112, 3) := by decide +kernel
theorem dX8_undo_20 : decode cX8_undo 20 = .ok (.ifCond .ne 6, 3) := by decide +kernel
theorem dX8_undo_23 : decode cX8_undo 23 = .ok (.bipush (-4), 2) := by decide +kernel
theorem dX8_undo_25 : decode cX8_undo 25 = .ok (.ireturn, 1) := by decide +kernel
theorem dX8_undo_26 : decode cX8_undo 26 = .ok (.aload_n 0, 1) := by decide +kernel
theorem dX8_undo_27 : decode cX8_undo 27 = .ok (.getfield 19, 3) := by decide +kernel
theorem dX8_undo_30 : decode cX8_undo 30 = .ok (.aload_n 0, 1) := by decide +kernel
theorem dX8_undo_31 : decode cX8_undo 31 = .ok (.getfield 10, 3) := by decide +kernel
theorem dX8_undo_34 : decode cX8_undo 34 = .ok (.invokevirtual 113, 3) := by decide +kernel
theorem dX8_undo_37 : decode cX8_undo 37 = .ok (.aload_n 0, 1) := by decide +kernel
theorem dX8_undo_38 : decode cX8_undo 38 = .ok (.getfield 26, 3) := by decide +kernel
theorem dX8_undo_41 : decode cX8_undo 41 = .ok (.aload_n 0, 1) := by decide +kernel
theorem dX8_undo_42 : decode cX8_undo 42 = .ok (.getfield 10, 3) := by decide +kernel
theorem dX8_undo_45 : decode cX8_undo 45 = .ok (.invokevirtual 97, 3) := by decide +kernel
theorem dX8_undo_48 : decode cX8_undo 48 = .ok (.aload_n 0, 1) := by decide +kernel
theorem dX8_undo_49 : decode cX8_undo 49 = .ok (.getfield 19, 3) := by decide +kernel
theorem dX8_undo_52 : decode cX8_undo 52 = .ok (.getfield 112, 3) := by decide +kernel
theorem dX8_undo_55 : decode cX8_undo 55 = .ok (.ireturn, 1) := by decide +kernel
abbrev rm_X8_undo : Room := { frames := 4, cells := 0, slots := 0, locals := 86 }
theorem w_X8_undo_e {X : gX} {σ : sg}  {r0 : (Int32 × sg)} (C : gC X cX8_undo 1 RX8 (some .int) rm_X8_undo)  (hQ : gQ X (qI (XG X) r0.1 r0.2)) (hf : f_X8_undo σ = some r0) : G X 1 σ 0 [(0, .ref (Xd X 0))] [] := by
  unfold f_X8_undo at hf
  refine g_aload_n C 0 dX8_undo_0 rfl ?_
  refine g_getr C 8 5 (75) (by decide) sh_0 rfl vc_8 (by decide) inXX8 wfl_264 dX8_undo_1 ?_
  refine g_getiN C 5 12 (by decide) sh_75 rfl vc_5 (by decide) inXX5 wfn_194 dX8_undo_4 ?_
  refine g_if_eq C 13 hf dX8_undo_7 (by decide) (fun hf => ?_) (fun hf => ?_)
  · refine g_aload_n C 0 dX8_undo_13 rfl ?_
    refine g_getr C 8 1 (43) (by decide) sh_0 rfl vc_8 (by decide) inXX8 wfl_260 dX8_undo_14 ?_
    refine g_getiN C 3 4 (by decide) sh_43 rfl vc_3 (by decide) inXX3 wfn_56 dX8_undo_17 ?_
    refine g_if_ne C 26 hf dX8_undo_20 (by decide) (fun hf => ?_) (fun hf => ?_)
    · refine g_bipush C (v := (-4)) dX8_undo_23 rfl ?_
      have e0 : r0 = ((-4 : Int32), σ) := (Option.some.inj hf).symm
      exact g_iret C rfl hQ (by rw [e0]) rfl dX8_undo_25
    · refine g_aload_n C 0 dX8_undo_26 rfl ?_
      refine g_getr C 8 1 (43) (by decide) sh_0 rfl vc_8 (by decide) inXX8 wfl_260 dX8_undo_27 ?_
      refine g_aload_n C 0 dX8_undo_30 rfl ?_
      refine g_getr C 8 0 (1) (by decide) sh_0 rfl vc_8 (by decide) inXX8 wfl_259 dX8_undo_31 ?_
      obtain ⟨s34, h1, hf⟩ := g_bind hf
      refine g_callVv C 1 [.ref (Xd X 1)] (c_X3_takeBack (Xl X) (gC_I C)  h1) ⟨wml_377, wim_378, wse_379, win_3, wcd_380⟩ (by decide) sh_43 vc_3 rfl hd_X3_takeBack ⟨rfl, rfl⟩ ⟨Nat.le_of_ble_eq_true rfl, Nat.le_of_ble_eq_true rfl⟩ rfl rfl (Nat.le_of_ble_eq_true rfl) dX8_undo_34 ?_
      clear h1
      refine g_aload_n C 0 dX8_undo_37 rfl ?_
      refine g_getr C 8 2 (57) (by decide) sh_0 rfl vc_8 (by decide) inXX8 wfl_261 dX8_undo_38 ?_
      refine g_aload_n C 0 dX8_undo_41 rfl ?_
      refine g_getr C 8 0 (1) (by decide) sh_0 rfl vc_8 (by decide) inXX8 wfl_259 dX8_undo_42 ?_
      obtain ⟨s45, h1, hf⟩ := g_bind hf
      refine g_callVv C 1 [.ref (Xd X 1)] (c_X1_cut (Xl X) (gC_I C)  h1) ⟨wml_320, wim_321, wse_322, win_4, wcd_323⟩ (by decide) sh_57 vc_1 rfl hd_X1_cut ⟨rfl, rfl⟩ ⟨Nat.le_of_ble_eq_true rfl, Nat.le_of_ble_eq_true rfl⟩ rfl rfl (Nat.le_of_ble_eq_true rfl) dX8_undo_45 ?_
      clear h1
      refine g_aload_n C 0 dX8_undo_48 rfl ?_
      refine g_getr C 8 1 (43) (by decide) sh_0 rfl vc_8 (by decide) inXX8 wfl_260 dX8_undo_49 ?_
      refine g_getiN C 3 4 (by decide) sh_43 rfl vc_3 (by decide) inXX3 wfn_56 dX8_undo_52 ?_
      have e0 : r0 = (s45 43 4, s45) := (Option.some.inj hf).symm
      exact g_iret C rfl hQ (by rw [e0]) rfl dX8_undo_55
  · refine g_bipush C (v := (-5)) dX8_undo_10 rfl ?_
    have e0 : r0 = ((-5 : Int32), σ) := (Option.some.inj hf).symm
    exact g_iret C rfl hQ (by rw [e0]) rfl dX8_undo_12
theorem c_X8_undo (l : Launch) {Gw : gW} (hI : g_I Gw) {σ : sg}  {r : (Int32 × sg)}  (hf : f_X8_undo σ = some r) : gM l Gw yX8_undo cX8_undo 1 (some .int) rm_X8_undo [.ref (Gw.2.2 0)] σ (qI (Gw) r.1 r.2) := by
  refine g_met hI (by decide) (Nat.le_of_ble_eq_true rfl) (fun X h1 h2 C hQ => ?_)
  subst h1; subst h2
  exact w_X8_undo_e C  hQ hf
theorem dX8_blockCount_0 : decode cX8_blockCount 0 = .ok (.aload_n 0, 1) := by decide +kernel
theorem dX8_blockCount_1 : decode cX8_blockCount 1 = .ok (.getfield 26, 3) := by decide +kernel
theorem dX8_blockCount_4 : decode cX8_blockCount 4 = .ok (.getfield 116, 3) := by decide +kernel
theorem dX8_blockCount_7 : decode cX8_blockCount 7 = .ok (.ifCond .eq 13, 3) := by decide +kernel
theorem dX8_blockCount_10 : decode cX8_blockCount 10 = .ok (.aload_n 0, 1) := by decide +kernel
theorem dX8_blockCount_11 : decode cX8_blockCount 11 = .ok (.getfield 26, 3) := by decide +kernel
theorem dX8_blockCount_14 : decode cX8_blockCount 14 = .ok (.getfield 119, 3) := by decide +kernel
theorem dX8_blockCount_17 : decode cX8_blockCount 17 = .ok (.goto 5, 3) := by decide +kernel
theorem dX8_blockCount_20 : decode cX8_blockCount 20 = .ok (.bipush (-6), 2) := by decide +kernel
theorem dX8_blockCount_22 : decode cX8_blockCount 22 = .ok (.ireturn, 1) := by decide +kernel
abbrev rm_X8_blockCount : Room := { frames := 0, cells := 0, slots := 0, locals := 0 }
theorem w_X8_blockCount_e {X : gX} {σ : sg}  {r0 : Int32} (C : gC X cX8_blockCount 1 RX8 (some .int) rm_X8_blockCount)  (hQ : gQ X (qI (XG X) r0 σ)) (hf : f_X8_blockCount σ = some r0) : G X 1 σ 0 [(0, .ref (Xd X 0))] [] := by
  unfold f_X8_blockCount at hf
  refine g_aload_n C 0 dX8_blockCount_0 rfl ?_
  refine g_getr C 8 2 (57) (by decide) sh_0 rfl vc_8 (by decide) inXX8 wfl_261 dX8_blockCount_1 ?_
  refine g_getiN C 1 4 (by decide) sh_57 rfl vc_1 (by decide) inXX1 wfn_85 dX8_blockCount_4 ?_
  refine g_if_eq C 20 hf dX8_blockCount_7 (by decide) (fun hf => ?_) (fun hf => ?_)
  · refine g_bipush C (v := (-6)) dX8_blockCount_20 rfl ?_
    have e0 : r0 = (-6 : Int32) := (Option.some.inj hf).symm
    exact g_iret C rfl hQ (by rw [e0]) rfl dX8_blockCount_22
  · refine g_aload_n C 0 dX8_blockCount_10 rfl ?_
    refine g_getr C 8 2 (57) (by decide) sh_0 rfl vc_8 (by decide) inXX8 wfl_261 dX8_blockCount_11 ?_
    refine g_getiN C 1 3 (by decide) sh_57 rfl vc_1 (by decide) inXX1 wfn_83 dX8_blockCount_14 ?_
    refine g_goto C 22 dX8_blockCount_17 (by decide) ?_
    have e0 : r0 = σ 57 3 := (Option.some.inj hf).symm
    exact g_iret C rfl hQ (by rw [e0]) rfl dX8_blockCount_22
theorem c_X8_blockCount (l : Launch) {Gw : gW} (hI : g_I Gw) {σ : sg}  {r : Int32}  (hf : f_X8_blockCount σ = some r) : gM l Gw yX8_blockCount cX8_blockCount 1 (some .int) rm_X8_blockCount [.ref (Gw.2.2 0)] σ (qI (Gw) r σ) := by
  refine g_met hI (by decide) (Nat.le_of_ble_eq_true rfl) (fun X h1 h2 C hQ => ?_)
  subst h1; subst h2
  exact w_X8_blockCount_e C  hQ hf
theorem dX8_blockOf_0 : decode cX8_blockOf 0 = .ok (.aload_n 0, 1) := by decide +kernel
theorem dX8_blockOf_1 : decode cX8_blockOf 1 = .ok (.getfield 10, 3) := by decide +kernel
theorem dX8_blockOf_4 : decode cX8_blockOf 4 = .ok (.iload_n 1, 1) := by decide +kernel
theorem dX8_blockOf_5 : decode cX8_blockOf 5 = .ok (.invokevirtual 100, 3) := by decide +kernel
theorem dX8_blockOf_8 : decode cX8_blockOf 8 = .ok (.ifCond .ne 5, 3) := by decide +kernel
theorem dX8_blockOf_11 : decode cX8_blockOf 11 = .ok (.iconst (-1), 1) := by decide +kernel
theorem dX8_blockOf_12 : decode cX8_blockOf 12 = .ok (.ireturn, 1) := by decide +kernel
theorem dX8_blockOf_13 : decode cX8_blockOf 13 = .ok (.aload_n 0, 1) := by decide +kernel
theorem dX8_blockOf_14 : decode cX8_blockOf 14 = .ok (.getfield 26, 3) := by decide +kernel
theorem dX8_blockOf_17 : decode cX8_blockOf 17 = .ok (.getfield 116, 3) := by decide +kernel
theorem dX8_blockOf_20 : decode cX8_blockOf 20 = .ok (.ifCond .eq 15, 3) := by decide +kernel
theorem dX8_blockOf_23 : decode cX8_blockOf 23 = .ok (.aload_n 0, 1) := by decide +kernel
theorem dX8_blockOf_24 : decode cX8_blockOf 24 = .ok (.getfield 26, 3) := by decide +kernel
theorem dX8_blockOf_27 : decode cX8_blockOf 27 = .ok (.getfield 120, 3) := by decide +kernel
theorem dX8_blockOf_30 : decode cX8_blockOf 30 = .ok (.iload_n 1, 1) := by decide +kernel
theorem dX8_blockOf_31 : decode cX8_blockOf 31 = .ok (.iaload, 1) := by decide +kernel
theorem dX8_blockOf_32 : decode cX8_blockOf 32 = .ok (.goto 5, 3) := by decide +kernel
theorem dX8_blockOf_35 : decode cX8_blockOf 35 = .ok (.bipush (-6), 2) := by decide +kernel
theorem dX8_blockOf_37 : decode cX8_blockOf 37 = .ok (.ireturn, 1) := by decide +kernel
abbrev rm_X8_blockOf : Room := { frames := 1, cells := 0, slots := 0, locals := 21 }
theorem w_X8_blockOf_e {X : gX} {σ : sg} {p1 : Int32} {r0 : Int32} (C : gC X cX8_blockOf 2 RX8 (some .int) rm_X8_blockOf)  (hQ : gQ X (qI (XG X) r0 σ)) (hf : f_X8_blockOf σ p1 = some r0) : G X 2 σ 0 [(0, .ref (Xd X 0)), (1, .int p1)] [] := by
  unfold f_X8_blockOf at hf
  refine g_aload_n C 0 dX8_blockOf_0 rfl ?_
  refine g_getr C 8 0 (1) (by decide) sh_0 rfl vc_8 (by decide) inXX8 wfl_259 dX8_blockOf_1 ?_
  refine g_iload_n C 1 dX8_blockOf_4 rfl ?_
  obtain ⟨v5, h1, hf⟩ := g_bind hf
  refine g_callVi C 1 [.int p1] (c_X6_has (Xl X) (gC_I C)  h1) ⟨wml_359, wim_340, wse_341, win_2, wcd_342⟩ (by decide) sh_1 vc_6 rfl hd_X6_has ⟨rfl, rfl⟩ ⟨Nat.le_of_ble_eq_true rfl, Nat.le_of_ble_eq_true rfl⟩ rfl rfl (Nat.le_of_ble_eq_true rfl) dX8_blockOf_5 ?_
  clear h1
  refine g_if_ne C 13 hf dX8_blockOf_8 (by decide) (fun hf => ?_) (fun hf => ?_)
  · refine g_iconst C (v := (-1)) dX8_blockOf_11 rfl ?_
    have e0 : r0 = (-1 : Int32) := (Option.some.inj hf).symm
    exact g_iret C rfl hQ (by rw [e0]) rfl dX8_blockOf_12
  · refine g_aload_n C 0 dX8_blockOf_13 rfl ?_
    refine g_getr C 8 2 (57) (by decide) sh_0 rfl vc_8 (by decide) inXX8 wfl_261 dX8_blockOf_14 ?_
    refine g_getiN C 1 4 (by decide) sh_57 rfl vc_1 (by decide) inXX1 wfn_85 dX8_blockOf_17 ?_
    refine g_if_eq C 35 hf dX8_blockOf_20 (by decide) (fun hf => ?_) (fun hf => ?_)
    · refine g_bipush C (v := (-6)) dX8_blockOf_35 rfl ?_
      have e0 : r0 = (-6 : Int32) := (Option.some.inj hf).symm
      exact g_iret C rfl hQ (by rw [e0]) rfl dX8_blockOf_37
    · refine g_aload_n C 0 dX8_blockOf_23 rfl ?_
      refine g_getr C 8 2 (57) (by decide) sh_0 rfl vc_8 (by decide) inXX8 wfl_261 dX8_blockOf_24 ?_
      refine g_getrN C 1 1 (59) (by decide) sh_57 rfl vc_1 (by decide) inXX1 wfn_79 dX8_blockOf_27 ?_
      refine g_iload_n C 1 dX8_blockOf_30 rfl ?_
      obtain ⟨v31, h1, hf⟩ := g_bind hf
      refine g_iald C h1 dX8_blockOf_31 ?_
      clear h1
      refine g_goto C 37 dX8_blockOf_32 (by decide) ?_
      have e0 : r0 = v31 := (Option.some.inj hf).symm
      exact g_iret C rfl hQ (by rw [e0]) rfl dX8_blockOf_37
theorem c_X8_blockOf (l : Launch) {Gw : gW} (hI : g_I Gw) {σ : sg} {p1 : Int32} {r : Int32}  (hf : f_X8_blockOf σ p1 = some r) : gM l Gw yX8_blockOf cX8_blockOf 2 (some .int) rm_X8_blockOf [.ref (Gw.2.2 0), .int p1] σ (qI (Gw) r σ) := by
  refine g_met hI (by decide) (Nat.le_of_ble_eq_true rfl) (fun X h1 h2 C hQ => ?_)
  subst h1; subst h2
  exact w_X8_blockOf_e C  hQ hf
theorem dX8_blockBegin_0 : decode cX8_blockBegin 0 = .ok (.aload_n 0, 1) := by decide +kernel
theorem dX8_blockBegin_1 : decode cX8_blockBegin 1 = .ok (.getfield 26, 3) := by decide +kernel
theorem dX8_blockBegin_4 : decode cX8_blockBegin 4 = .ok (.getfield 116, 3) := by decide +kernel
theorem dX8_blockBegin_7 : decode cX8_blockBegin 7 = .ok (.ifCond .ne 6, 3) := by decide +kernel
theorem dX8_blockBegin_10 : decode cX8_blockBegin 10 = .ok (.bipush (-6), 2) := by decide +kernel
theorem dX8_blockBegin_12 : decode cX8_blockBegin 12 = .ok (.ireturn, 1) := by decide +kernel
theorem dX8_blockBegin_13 : decode cX8_blockBegin 13 = .ok (.aload_n 0, 1) := by decide +kernel
theorem dX8_blockBegin_14 : decode cX8_blockBegin 14 = .ok (.getfield 26, 3) := by decide +kernel
theorem dX8_blockBegin_17 : decode cX8_blockBegin 17 = .ok (.iload_n 1, 1) := by decide +kernel
theorem dX8_blockBegin_18 : decode cX8_blockBegin 18 = .ok (.invokevirtual 124, 3) := by decide +kernel
theorem dX8_blockBegin_21 : decode cX8_blockBegin 21 = .ok (.ifCond .eq 15, 3) := by decide +kernel
theorem dX8_blockBegin_24 : decode cX8_blockBegin 24 = .ok (.aload_n 0, 1) := by decide +kernel
theorem dX8_blockBegin_25 : decode cX8_blockBegin 25 = .ok (.getfield 26, 3) := by decide +kernel
theorem dX8_blockBegin_28 : decode cX8_blockBegin 28 = .ok (.getfield 125, 3) := by decide +kernel
theorem dX8_blockBegin_31 : decode cX8_blockBegin 31 = .ok (.iload_n 1, 1) := by decide +kernel
theorem dX8_blockBegin_32 : decode cX8_blockBegin 32 = .ok (.iaload, 1) := by decide +kernel
theorem dX8_blockBegin_33 : decode cX8_blockBegin 33 = .ok (.goto 4, 3) := by decide +kernel
theorem dX8_blockBegin_36 : decode cX8_blockBegin 36 = .ok (.iconst (-1), 1) := by decide +kernel
theorem dX8_blockBegin_37 : decode cX8_blockBegin 37 = .ok (.ireturn, 1) := by decide +kernel
abbrev rm_X8_blockBegin : Room := { frames := 1, cells := 0, slots := 0, locals := 21 }
theorem w_X8_blockBegin_e {X : gX} {σ : sg} {p1 : Int32} {r0 : Int32} (C : gC X cX8_blockBegin 2 RX8 (some .int) rm_X8_blockBegin)  (hQ : gQ X (qI (XG X) r0 σ)) (hf : f_X8_blockBegin σ p1 = some r0) : G X 2 σ 0 [(0, .ref (Xd X 0)), (1, .int p1)] [] := by
  unfold f_X8_blockBegin at hf
  refine g_aload_n C 0 dX8_blockBegin_0 rfl ?_
  refine g_getr C 8 2 (57) (by decide) sh_0 rfl vc_8 (by decide) inXX8 wfl_261 dX8_blockBegin_1 ?_
  refine g_getiN C 1 4 (by decide) sh_57 rfl vc_1 (by decide) inXX1 wfn_85 dX8_blockBegin_4 ?_
  refine g_if_ne C 13 hf dX8_blockBegin_7 (by decide) (fun hf => ?_) (fun hf => ?_)
  · refine g_bipush C (v := (-6)) dX8_blockBegin_10 rfl ?_
    have e0 : r0 = (-6 : Int32) := (Option.some.inj hf).symm
    exact g_iret C rfl hQ (by rw [e0]) rfl dX8_blockBegin_12
  · refine g_aload_n C 0 dX8_blockBegin_13 rfl ?_
    refine g_getr C 8 2 (57) (by decide) sh_0 rfl vc_8 (by decide) inXX8 wfl_261 dX8_blockBegin_14 ?_
    refine g_iload_n C 1 dX8_blockBegin_17 rfl ?_
    obtain ⟨v18, h1, hf⟩ := g_bind hf
    refine g_callVi C 1 [.int p1] (c_X1_has (Xl X) (gC_I C)  h1) ⟨wml_393, wim_394, wse_395, win_4, wcd_396⟩ (by decide) sh_57 vc_1 rfl hd_X1_has ⟨rfl, rfl⟩ ⟨Nat.le_of_ble_eq_true rfl, Nat.le_of_ble_eq_true rfl⟩ rfl rfl (Nat.le_of_ble_eq_true rfl) dX8_blockBegin_18 ?_
    clear h1
    refine g_if_eq C 36 hf dX8_blockBegin_21 (by decide) (fun hf => ?_) (fun hf => ?_)
    · refine g_iconst C (v := (-1)) dX8_blockBegin_36 rfl ?_
      have e0 : r0 = (-1 : Int32) := (Option.some.inj hf).symm
      exact g_iret C rfl hQ (by rw [e0]) rfl dX8_blockBegin_37
    · refine g_aload_n C 0 dX8_blockBegin_24 rfl ?_
      refine g_getr C 8 2 (57) (by decide) sh_0 rfl vc_8 (by decide) inXX8 wfl_261 dX8_blockBegin_25 ?_
      refine g_getrN C 1 0 (58) (by decide) sh_57 rfl vc_1 (by decide) inXX1 wfn_76 dX8_blockBegin_28 ?_
      refine g_iload_n C 1 dX8_blockBegin_31 rfl ?_
      obtain ⟨v32, h1, hf⟩ := g_bind hf
      refine g_iald C h1 dX8_blockBegin_32 ?_
      clear h1
      refine g_goto C 37 dX8_blockBegin_33 (by decide) ?_
      have e0 : r0 = v32 := (Option.some.inj hf).symm
      exact g_iret C rfl hQ (by rw [e0]) rfl dX8_blockBegin_37
theorem c_X8_blockBegin (l : Launch) {Gw : gW} (hI : g_I Gw) {σ : sg} {p1 : Int32} {r : Int32}  (hf : f_X8_blockBegin σ p1 = some r) : gM l Gw yX8_blockBegin cX8_blockBegin 2 (some .int) rm_X8_blockBegin [.ref (Gw.2.2 0), .int p1] σ (qI (Gw) r σ) := by
  refine g_met hI (by decide) (Nat.le_of_ble_eq_true rfl) (fun X h1 h2 C hQ => ?_)
  subst h1; subst h2
  exact w_X8_blockBegin_e C  hQ hf
theorem dX8_distance_0 : decode cX8_distance 0 = .ok (.aload_n 0, 1) := by decide +kernel
theorem dX8_distance_1 : decode cX8_distance 1 = .ok (.getfield 10, 3) := by decide +kernel
theorem dX8_distance_4 : decode cX8_distance 4 = .ok (.iload_n 1, 1) := by decide +kernel
theorem dX8_distance_5 : decode cX8_distance 5 = .ok (.invokevirtual 100, 3) := by decide +kernel
theorem dX8_distance_8 : decode cX8_distance 8 = .ok (.ifCond .eq 14, 3) := by decide +kernel
theorem dX8_distance_11 : decode cX8_distance 11 = .ok (.aload_n 0, 1) := by decide +kernel
theorem dX8_distance_12 : decode cX8_distance 12 = .ok (.getfield 10, 3) := by decide +kernel
theorem dX8_distance_15 : decode cX8_distance 15 = .ok (.iload_n 2, 1) := by decide +kernel
theorem dX8_distance_16 : decode cX8_distance 16 = .ok (.invokevirtual 100, 3) := by decide +kernel
theorem dX8_distance_19 : decode cX8_distance 19 = .ok (.ifCond .ne 5, 3) := by decide +kernel
theorem dX8_distance_22 : decode cX8_distance 22 = .ok (.iconst (-1), 1) := by decide +kernel
theorem dX8_distance_23 : decode cX8_distance 23 = .ok (.ireturn, 1) := by decide +kernel
theorem dX8_distance_24 : decode cX8_distance 24 = .ok (.aload_n 0, 1) := by decide +kernel
theorem dX8_distance_25 : decode cX8_distance 25 = .ok (.getfield 26, 3) := by decide +kernel
theorem dX8_distance_28 : decode cX8_distance 28 = .ok (.getfield 116, 3) := by decide +kernel
theorem dX8_distance_31 : decode cX8_distance 31 = .ok (.ifCond .ne 6, 3) := by decide +kernel
theorem dX8_distance_34 : decode cX8_distance 34 = .ok (.bipush (-6), 2) := by decide +kernel
theorem dX8_distance_36 : decode cX8_distance 36 = .ok (.ireturn, 1) := by decide +kernel
theorem dX8_distance_37 : decode cX8_distance 37 = .ok (.iload_n 2, 1) := by decide +kernel
theorem dX8_distance_38 : decode cX8_distance 38 = .ok (.iload_n 1, 1) := by decide +kernel
theorem dX8_distance_39 : decode cX8_distance 39 = .ok (.if_icmp .le 24, 3) := by decide +kernel
theorem dX8_distance_42 : decode cX8_distance 42 = .ok (.aload_n 0, 1) := by decide +kernel
theorem dX8_distance_43 : decode cX8_distance 43 = .ok (.getfield 26, 3) := by decide +kernel
theorem dX8_distance_46 : decode cX8_distance 46 = .ok (.getfield 120, 3) := by decide +kernel
theorem dX8_distance_49 : decode cX8_distance 49 = .ok (.iload_n 1, 1) := by decide +kernel
theorem dX8_distance_50 : decode cX8_distance 50 = .ok (.iaload, 1) := by decide +kernel
theorem dX8_distance_51 : decode cX8_distance 51 = .ok (.aload_n 0, 1) := by decide +kernel
theorem dX8_distance_52 : decode cX8_distance 52 = .ok (.getfield 26, 3) := by decide +kernel
theorem dX8_distance_55 : decode cX8_distance 55 = .ok (.getfield 120, 3) := by decide +kernel
theorem dX8_distance_58 : decode cX8_distance 58 = .ok (.iload_n 2, 1) := by decide +kernel
theorem dX8_distance_59 : decode cX8_distance 59 = .ok (.iaload, 1) := by decide +kernel
theorem dX8_distance_60 : decode cX8_distance 60 = .ok (.if_icmp .eq 6, 3) := by decide +kernel
theorem dX8_distance_63 : decode cX8_distance 63 = .ok (.bipush (-2), 2) := by decide +kernel
theorem dX8_distance_65 : decode cX8_distance 65 = .ok (.ireturn, 1) := by decide +kernel
theorem dX8_distance_66 : decode cX8_distance 66 = .ok (.aload_n 0, 1) := by decide +kernel
theorem dX8_distance_67 : decode cX8_distance 67 = .ok (.getfield 10, 3) := by decide +kernel
theorem dX8_distance_70 : decode cX8_distance 70 = .ok (.iload_n 1, 1) := by decide +kernel
theorem dX8_distance_71 : decode cX8_distance 71 = .ok (.iload_n 2, 1) := by decide +kernel
theorem dX8_distance_72 : decode cX8_distance 72 = .ok (.invokevirtual 128, 3) := by decide +kernel
theorem dX8_distance_75 : decode cX8_distance 75 = .ok (.ireturn, 1) := by decide +kernel
abbrev rm_X8_distance : Room := { frames := 2, cells := 0, slots := 0, locals := 85 }
theorem w_X8_distance_e {X : gX} {σ : sg} {p1 : Int32} {p2 : Int32} {r0 : Int32} (C : gC X cX8_distance 3 RX8 (some .int) rm_X8_distance)  (hQ : gQ X (qI (XG X) r0 σ)) (hf : f_X8_distance σ p1 p2 = some r0) : G X 3 σ 0 [(0, .ref (Xd X 0)), (1, .int p1), (2, .int p2)] [] := by
  unfold f_X8_distance at hf
  refine g_aload_n C 0 dX8_distance_0 rfl ?_
  refine g_getr C 8 0 (1) (by decide) sh_0 rfl vc_8 (by decide) inXX8 wfl_259 dX8_distance_1 ?_
  refine g_iload_n C 1 dX8_distance_4 rfl ?_
  obtain ⟨v5, h1, hf⟩ := g_bind hf
  refine g_callVi C 1 [.int p1] (c_X6_has (Xl X) (gC_I C)  h1) ⟨wml_359, wim_340, wse_341, win_2, wcd_342⟩ (by decide) sh_1 vc_6 rfl hd_X6_has ⟨rfl, rfl⟩ ⟨Nat.le_of_ble_eq_true rfl, Nat.le_of_ble_eq_true rfl⟩ rfl rfl (Nat.le_of_ble_eq_true rfl) dX8_distance_5 ?_
  clear h1
  refine g_if_eq C 22 hf dX8_distance_8 (by decide) (fun hf => ?_) (fun hf => ?_)
  · refine g_iconst C (v := (-1)) dX8_distance_22 rfl ?_
    have e0 : r0 = (-1 : Int32) := (Option.some.inj hf).symm
    exact g_iret C rfl hQ (by rw [e0]) rfl dX8_distance_23
  · refine g_aload_n C 0 dX8_distance_11 rfl ?_
    refine g_getr C 8 0 (1) (by decide) sh_0 rfl vc_8 (by decide) inXX8 wfl_259 dX8_distance_12 ?_
    refine g_iload_n C 2 dX8_distance_15 rfl ?_
    obtain ⟨v16, h1, hf⟩ := g_bind hf
    refine g_callVi C 1 [.int p2] (c_X6_has (Xl X) (gC_I C)  h1) ⟨wml_359, wim_340, wse_341, win_2, wcd_342⟩ (by decide) sh_1 vc_6 rfl hd_X6_has ⟨rfl, rfl⟩ ⟨Nat.le_of_ble_eq_true rfl, Nat.le_of_ble_eq_true rfl⟩ rfl rfl (Nat.le_of_ble_eq_true rfl) dX8_distance_16 ?_
    clear h1
    refine g_if_ne C 24 hf dX8_distance_19 (by decide) (fun hf => ?_) (fun hf => ?_)
    · refine g_iconst C (v := (-1)) dX8_distance_22 rfl ?_
      have e0 : r0 = (-1 : Int32) := (Option.some.inj hf).symm
      exact g_iret C rfl hQ (by rw [e0]) rfl dX8_distance_23
    · refine g_aload_n C 0 dX8_distance_24 rfl ?_
      refine g_getr C 8 2 (57) (by decide) sh_0 rfl vc_8 (by decide) inXX8 wfl_261 dX8_distance_25 ?_
      refine g_getiN C 1 4 (by decide) sh_57 rfl vc_1 (by decide) inXX1 wfn_85 dX8_distance_28 ?_
      refine g_if_ne C 37 hf dX8_distance_31 (by decide) (fun hf => ?_) (fun hf => ?_)
      · refine g_bipush C (v := (-6)) dX8_distance_34 rfl ?_
        have e0 : r0 = (-6 : Int32) := (Option.some.inj hf).symm
        exact g_iret C rfl hQ (by rw [e0]) rfl dX8_distance_36
      · refine g_iload_n C 2 dX8_distance_37 rfl ?_
        refine g_iload_n C 1 dX8_distance_38 rfl ?_
        refine g_icmp_le C 63 hf dX8_distance_39 (by decide) (fun hf => ?_) (fun hf => ?_)
        · refine g_bipush C (v := (-2)) dX8_distance_63 rfl ?_
          have e0 : r0 = (-2 : Int32) := (Option.some.inj hf).symm
          exact g_iret C rfl hQ (by rw [e0]) rfl dX8_distance_65
        · refine g_aload_n C 0 dX8_distance_42 rfl ?_
          refine g_getr C 8 2 (57) (by decide) sh_0 rfl vc_8 (by decide) inXX8 wfl_261 dX8_distance_43 ?_
          refine g_getrN C 1 1 (59) (by decide) sh_57 rfl vc_1 (by decide) inXX1 wfn_79 dX8_distance_46 ?_
          refine g_iload_n C 1 dX8_distance_49 rfl ?_
          obtain ⟨v50, h1, hf⟩ := g_bind hf
          refine g_iald C h1 dX8_distance_50 ?_
          clear h1
          refine g_aload_n C 0 dX8_distance_51 rfl ?_
          refine g_getr C 8 2 (57) (by decide) sh_0 rfl vc_8 (by decide) inXX8 wfl_261 dX8_distance_52 ?_
          refine g_getrN C 1 1 (59) (by decide) sh_57 rfl vc_1 (by decide) inXX1 wfn_79 dX8_distance_55 ?_
          refine g_iload_n C 2 dX8_distance_58 rfl ?_
          obtain ⟨v59, h1, hf⟩ := g_bind hf
          refine g_iald C h1 dX8_distance_59 ?_
          clear h1
          refine g_icmp_eq C 66 hf dX8_distance_60 (by decide) (fun hf => ?_) (fun hf => ?_)
          · refine g_aload_n C 0 dX8_distance_66 rfl ?_
            refine g_getr C 8 0 (1) (by decide) sh_0 rfl vc_8 (by decide) inXX8 wfl_259 dX8_distance_67 ?_
            refine g_iload_n C 1 dX8_distance_70 rfl ?_
            refine g_iload_n C 2 dX8_distance_71 rfl ?_
            obtain ⟨v72, h1, hf⟩ := g_bind hf
            refine g_callVi C 2 [.int p1, .int p2] (c_X6_gap (Xl X) (gC_I C)  h1) ⟨wml_401, wim_402, wse_403, win_2, wcd_404⟩ (by decide) sh_1 vc_6 rfl hd_X6_gap ⟨rfl, rfl⟩ ⟨Nat.le_of_ble_eq_true rfl, Nat.le_of_ble_eq_true rfl⟩ rfl rfl (Nat.le_of_ble_eq_true rfl) dX8_distance_72 ?_
            clear h1
            have e0 : r0 = v72 := (Option.some.inj hf).symm
            exact g_iret C rfl hQ (by rw [e0]) rfl dX8_distance_75
          · refine g_bipush C (v := (-2)) dX8_distance_63 rfl ?_
            have e0 : r0 = (-2 : Int32) := (Option.some.inj hf).symm
            exact g_iret C rfl hQ (by rw [e0]) rfl dX8_distance_65
theorem c_X8_distance (l : Launch) {Gw : gW} (hI : g_I Gw) {σ : sg} {p1 : Int32} {p2 : Int32} {r : Int32}  (hf : f_X8_distance σ p1 p2 = some r) : gM l Gw yX8_distance cX8_distance 3 (some .int) rm_X8_distance [.ref (Gw.2.2 0), .int p1, .int p2] σ (qI (Gw) r σ) := by
  refine g_met hI (by decide) (Nat.le_of_ble_eq_true rfl) (fun X h1 h2 C hQ => ?_)
  subst h1; subst h2
  exact w_X8_distance_e C  hQ hf
theorem dX8_addTemplate_0 : decode cX8_addTemplate 0 = .ok (.iload_n 1, 1) := by decide +kernel
theorem dX8_addTemplate_1 : decode cX8_addTemplate 1 = .ok (.invokestatic 132, 3) := by decide +kernel
theorem dX8_addTemplate_4 : decode cX8_addTemplate 4 = .ok (.ifCond .eq 17, 3) := by decide +kernel
theorem dX8_addTemplate_7 : decode cX8_addTemplate 7 = .ok (.iload_n 2, 1) := by decide +kernel
theorem dX8_addTemplate_8 : decode cX8_addTemplate 8 = .ok (.invokestatic 132, 3) := by decide +kernel
theorem dX8_addTemplate_11 : decode cX8_addTemplate 11 = .ok (.ifCond .eq 10, 3) := by decide +kernel
theorem dX8_addTemplate_14 : decode cX8_addTemplate 14 = .ok (.iload_n 3, 1) := by decide +kernel
theorem dX8_addTemplate_15 : decode cX8_addTemplate 15 = .ok (.invokestatic 132, 3) := by decide +kernel
theorem dX8_addTemplate_18 : decode cX8_addTemplate 18 = .ok (.ifCond .ne 6, 3) := by decide +kernel
theorem dX8_addTemplate_21 : decode cX8_addTemplate 21 = .ok (.bipush (-2), 2) := by decide +kernel
theorem dX8_addTemplate_23 : decode cX8_addTemplate 23 = .ok (.ireturn, 1) := by decide +kernel
theorem dX8_addTemplate_24 : decode cX8_addTemplate 24 = .ok (.iload 4, 2) := by decide +kernel
theorem dX8_addTemplate_26 : decode cX8_addTemplate 26 = .ok (.ifCond .lt 10, 3) := by decide +kernel
theorem dX8_addTemplate_29 : decode cX8_addTemplate 29 = .ok (.iload 4, 2) := by decide +kernel
theorem dX8_addTemplate_31 : decode cX8_addTemplate 31 = .ok (.bipush 8, 2) := by decide +kernel
theorem dX8_addTemplate_33 : decode cX8_addTemplate 33 = .ok (.if_icmp .lt 6, 3) := by decide +kernel
theorem dX8_addTemplate_36 : decode cX8_addTemplate 36 = .ok (.bipush (-2), 2) := by decide +kernel
theorem dX8_addTemplate_38 : decode cX8_addTemplate 38 = .ok (.ireturn, 1) := by decide +kernel
theorem dX8_addTemplate_39 : decode cX8_addTemplate 39 = .ok (.aload_n 0, 1) := by decide +kernel
theorem dX8_addTemplate_40 : decode cX8_addTemplate 40 = .ok (.getfield 51, 3) := by decide +kernel
theorem dX8_addTemplate_43 : decode cX8_addTemplate 43 = .ok (.getfield 81, 3) := by decide +kernel
theorem dX8_addTemplate_46 : decode cX8_addTemplate 46 = .ok (.ifCond .eq 6, 3) := by decide +kernel
theorem dX8_addTemplate_49 : decode cX8_addTemplate 49 = .ok (.bipush (-5), 2) := by decide +kernel
theorem dX8_addTemplate_51 : decode cX8_addTemplate 51 = .ok (.ireturn, 1) := by decide +kernel
theorem dX8_addTemplate_52 : decode cX8_addTemplate 52 = .ok (.aload_n 0, 1) := by decide +kernel
theorem dX8_addTemplate_53 : decode cX8_addTemplate 53 = .ok (.getfield 33, 3) := by decide +kernel
theorem dX8_addTemplate_56 : decode cX8_addTemplate 56 = .ok (.getfield 135, 3) := by decide +kernel
theorem dX8_addTemplate_59 : decode cX8_addTemplate 59 = .ok (.bipush 8, 2) := by decide +kernel
theorem dX8_addTemplate_61 : decode cX8_addTemplate 61 = .ok (.if_icmp .lt 6, 3) := by decide +kernel
theorem dX8_addTemplate_64 : decode cX8_addTemplate 64 = .ok (.bipush (-3), 2) := by decide +kernel
theorem dX8_addTemplate_66 : decode cX8_addTemplate 66 = .ok (.ireturn, 1) := by decide +kernel
theorem dX8_addTemplate_67 : decode cX8_addTemplate 67 = .ok (.aload_n 0, 1) := by decide +kernel
theorem dX8_addTemplate_68 : decode cX8_addTemplate 68 = .ok (.getfield 33, 3) := by decide +kernel
theorem dX8_addTemplate_71 : decode cX8_addTemplate 71 = .ok (.iload_n 1, 1) := by decide +kernel
theorem dX8_addTemplate_72 : decode cX8_addTemplate 72 = .ok (.iload_n 2, 1) := by decide +kernel
theorem dX8_addTemplate_73 : decode cX8_addTemplate 73 = .ok (.iload_n 3, 1) := by decide +kernel
theorem dX8_addTemplate_74 : decode cX8_addTemplate 74 = .ok (.iload 4, 2) := by decide +kernel
theorem dX8_addTemplate_76 : decode cX8_addTemplate 76 = .ok (.invokevirtual 136, 3) := by decide +kernel
theorem dX8_addTemplate_79 : decode cX8_addTemplate 79 = .ok (.aload_n 0, 1) := by decide +kernel
theorem dX8_addTemplate_80 : decode cX8_addTemplate 80 = .ok (.getfield 33, 3) := by decide +kernel
theorem dX8_addTemplate_83 : decode cX8_addTemplate 83 = .ok (.getfield 135, 3) := by decide +kernel
theorem dX8_addTemplate_86 : decode cX8_addTemplate 86 = .ok (.iconst 1, 1) := by decide +kernel
theorem dX8_addTemplate_87 : decode cX8_addTemplate 87 = .ok (.isub, 1) := by decide +kernel
theorem dX8_addTemplate_88 : decode cX8_addTemplate 88 = .ok (.ireturn, 1) := by decide +kernel
abbrev rm_X8_addTemplate : Room := { frames := 1, cells := 0, slots := 0, locals := 24 }
theorem w_X8_addTemplate_e {X : gX} {σ : sg} {p1 : Int32} {p2 : Int32} {p3 : Int32} {p4 : Int32} {r0 : (Int32 × sg)} (C : gC X cX8_addTemplate 5 RX8 (some .int) rm_X8_addTemplate)  (hQ : gQ X (qI (XG X) r0.1 r0.2)) (hf : f_X8_addTemplate σ p1 p2 p3 p4 = some r0) : G X 5 σ 0 [(0, .ref (Xd X 0)), (1, .int p1), (2, .int p2), (3, .int p3), (4, .int p4)] [] := by
  unfold f_X8_addTemplate at hf
  refine g_iload_n C 1 dX8_addTemplate_0 rfl ?_
  obtain ⟨v1, h1, hf⟩ := g_bind hf
  refine g_callSi C 1 [.int p1] (c_X7_isType (Xl X) (gC_I C)  h1) ⟨wml_424, wst_425, win_5, wcd_426⟩ hd_X7_isType ⟨rfl, rfl⟩ ⟨Nat.le_of_ble_eq_true rfl, Nat.le_of_ble_eq_true rfl⟩ rfl rfl (Nat.le_of_ble_eq_true rfl) dX8_addTemplate_1 ?_
  clear h1
  refine g_if_eq C 21 hf dX8_addTemplate_4 (by decide) (fun hf => ?_) (fun hf => ?_)
  · refine g_bipush C (v := (-2)) dX8_addTemplate_21 rfl ?_
    have e0 : r0 = ((-2 : Int32), σ) := (Option.some.inj hf).symm
    exact g_iret C rfl hQ (by rw [e0]) rfl dX8_addTemplate_23
  · refine g_iload_n C 2 dX8_addTemplate_7 rfl ?_
    obtain ⟨v8, h1, hf⟩ := g_bind hf
    refine g_callSi C 1 [.int p2] (c_X7_isType (Xl X) (gC_I C)  h1) ⟨wml_424, wst_425, win_5, wcd_426⟩ hd_X7_isType ⟨rfl, rfl⟩ ⟨Nat.le_of_ble_eq_true rfl, Nat.le_of_ble_eq_true rfl⟩ rfl rfl (Nat.le_of_ble_eq_true rfl) dX8_addTemplate_8 ?_
    clear h1
    refine g_if_eq C 21 hf dX8_addTemplate_11 (by decide) (fun hf => ?_) (fun hf => ?_)
    · refine g_bipush C (v := (-2)) dX8_addTemplate_21 rfl ?_
      have e0 : r0 = ((-2 : Int32), σ) := (Option.some.inj hf).symm
      exact g_iret C rfl hQ (by rw [e0]) rfl dX8_addTemplate_23
    · refine g_iload_n C 3 dX8_addTemplate_14 rfl ?_
      obtain ⟨v15, h1, hf⟩ := g_bind hf
      refine g_callSi C 1 [.int p3] (c_X7_isType (Xl X) (gC_I C)  h1) ⟨wml_424, wst_425, win_5, wcd_426⟩ hd_X7_isType ⟨rfl, rfl⟩ ⟨Nat.le_of_ble_eq_true rfl, Nat.le_of_ble_eq_true rfl⟩ rfl rfl (Nat.le_of_ble_eq_true rfl) dX8_addTemplate_15 ?_
      clear h1
      refine g_if_ne C 24 hf dX8_addTemplate_18 (by decide) (fun hf => ?_) (fun hf => ?_)
      · refine g_bipush C (v := (-2)) dX8_addTemplate_21 rfl ?_
        have e0 : r0 = ((-2 : Int32), σ) := (Option.some.inj hf).symm
        exact g_iret C rfl hQ (by rw [e0]) rfl dX8_addTemplate_23
      · refine g_iload C 4 dX8_addTemplate_24 rfl ?_
        refine g_if_lt C 36 hf dX8_addTemplate_26 (by decide) (fun hf => ?_) (fun hf => ?_)
        · refine g_bipush C (v := (-2)) dX8_addTemplate_36 rfl ?_
          have e0 : r0 = ((-2 : Int32), σ) := (Option.some.inj hf).symm
          exact g_iret C rfl hQ (by rw [e0]) rfl dX8_addTemplate_38
        · refine g_iload C 4 dX8_addTemplate_29 rfl ?_
          refine g_bipush C (v := 8) dX8_addTemplate_31 rfl ?_
          refine g_icmp_lt C 39 hf dX8_addTemplate_33 (by decide) (fun hf => ?_) (fun hf => ?_)
          · refine g_aload_n C 0 dX8_addTemplate_39 rfl ?_
            refine g_getr C 8 5 (75) (by decide) sh_0 rfl vc_8 (by decide) inXX8 wfl_264 dX8_addTemplate_40 ?_
            refine g_getiN C 5 12 (by decide) sh_75 rfl vc_5 (by decide) inXX5 wfn_194 dX8_addTemplate_43 ?_
            refine g_if_eq C 52 hf dX8_addTemplate_46 (by decide) (fun hf => ?_) (fun hf => ?_)
            · refine g_aload_n C 0 dX8_addTemplate_52 rfl ?_
              refine g_getr C 8 3 (61) (by decide) sh_0 rfl vc_8 (by decide) inXX8 wfl_262 dX8_addTemplate_53 ?_
              refine g_getiN C 7 2 (by decide) sh_61 rfl vc_7 (by decide) inXX7 wfn_112 dX8_addTemplate_56 ?_
              refine g_bipush C (v := 8) dX8_addTemplate_59 rfl ?_
              refine g_icmp_lt C 67 hf dX8_addTemplate_61 (by decide) (fun hf => ?_) (fun hf => ?_)
              · refine g_aload_n C 0 dX8_addTemplate_67 rfl ?_
                refine g_getr C 8 3 (61) (by decide) sh_0 rfl vc_8 (by decide) inXX8 wfl_262 dX8_addTemplate_68 ?_
                refine g_iload_n C 1 dX8_addTemplate_71 rfl ?_
                refine g_iload_n C 2 dX8_addTemplate_72 rfl ?_
                refine g_iload_n C 3 dX8_addTemplate_73 rfl ?_
                refine g_iload C 4 dX8_addTemplate_74 rfl ?_
                obtain ⟨s76, h1, hf⟩ := g_bind hf
                refine g_callVv C 4 [.int p1, .int p2, .int p3, .int p4] (c_X7_append (Xl X) (gC_I C)  h1) ⟨wml_427, wim_428, wse_429, win_5, wcd_430⟩ (by decide) sh_61 vc_7 rfl hd_X7_append ⟨rfl, rfl⟩ ⟨Nat.le_of_ble_eq_true rfl, Nat.le_of_ble_eq_true rfl⟩ rfl rfl (Nat.le_of_ble_eq_true rfl) dX8_addTemplate_76 ?_
                clear h1
                refine g_aload_n C 0 dX8_addTemplate_79 rfl ?_
                refine g_getr C 8 3 (61) (by decide) sh_0 rfl vc_8 (by decide) inXX8 wfl_262 dX8_addTemplate_80 ?_
                refine g_getiN C 7 2 (by decide) sh_61 rfl vc_7 (by decide) inXX7 wfn_112 dX8_addTemplate_83 ?_
                refine g_iconst C (v := 1) dX8_addTemplate_86 rfl ?_
                refine g_isub C dX8_addTemplate_87 ?_
                have e0 : r0 = ((s76 61 2) - (1 : Int32), s76) := (Option.some.inj hf).symm
                exact g_iret C rfl hQ (by rw [e0]) rfl dX8_addTemplate_88
              · refine g_bipush C (v := (-3)) dX8_addTemplate_64 rfl ?_
                have e0 : r0 = ((-3 : Int32), σ) := (Option.some.inj hf).symm
                exact g_iret C rfl hQ (by rw [e0]) rfl dX8_addTemplate_66
            · refine g_bipush C (v := (-5)) dX8_addTemplate_49 rfl ?_
              have e0 : r0 = ((-5 : Int32), σ) := (Option.some.inj hf).symm
              exact g_iret C rfl hQ (by rw [e0]) rfl dX8_addTemplate_51
          · refine g_bipush C (v := (-2)) dX8_addTemplate_36 rfl ?_
            have e0 : r0 = ((-2 : Int32), σ) := (Option.some.inj hf).symm
            exact g_iret C rfl hQ (by rw [e0]) rfl dX8_addTemplate_38
theorem c_X8_addTemplate (l : Launch) {Gw : gW} (hI : g_I Gw) {σ : sg} {p1 : Int32} {p2 : Int32} {p3 : Int32} {p4 : Int32} {r : (Int32 × sg)}  (hf : f_X8_addTemplate σ p1 p2 p3 p4 = some r) : gM l Gw yX8_addTemplate cX8_addTemplate 5 (some .int) rm_X8_addTemplate [.ref (Gw.2.2 0), .int p1, .int p2, .int p3, .int p4] σ (qI (Gw) r.1 r.2) := by
  refine g_met hI (by decide) (Nat.le_of_ble_eq_true rfl) (fun X h1 h2 C hQ => ?_)
  subst h1; subst h2
  exact w_X8_addTemplate_e C  hQ hf
theorem dX8_clearTemplates_0 : decode cX8_clearTemplates 0 = .ok (.aload_n 0, 1) := by decide +kernel
theorem dX8_clearTemplates_1 : decode cX8_clearTemplates 1 = .ok (.getfield 51, 3) := by decide +kernel
theorem dX8_clearTemplates_4 : decode cX8_clearTemplates 4 = .ok (.getfield 81, 3) := by decide +kernel
theorem dX8_clearTemplates_7 : decode cX8_clearTemplates 7 = .ok (.ifCond .eq 6, 3) := by decide +kernel
theorem dX8_clearTemplates_10 : decode cX8_clearTemplates 10 = .ok (.bipush (-5), 2) := by decide +kernel
theorem dX8_clearTemplates_12 : decode cX8_clearTemplates 12 = .ok (.ireturn, 1) := by decide +kernel
theorem dX8_clearTemplates_13 : decode cX8_clearTemplates 13 = .ok (.aload_n 0, 1) := by decide +kernel
theorem dX8_clearTemplates_14 : decode cX8_clearTemplates 14 = .ok (.getfield 33, 3) := by decide +kernel
theorem dX8_clearTemplates_17 : decode cX8_clearTemplates 17 = .ok (.getfield 135, 3) := by decide +kernel
theorem dX8_clearTemplates_20 : decode cX8_clearTemplates 20 = .ok (.istore_n 1, 1) := by decide +kernel
theorem dX8_clearTemplates_21 : decode cX8_clearTemplates 21 = .ok (.aload_n 0, 1) := by decide +kernel
theorem dX8_clearTemplates_22 : decode cX8_clearTemplates 22 = .ok (.getfield 33, 3) := by decide +kernel
theorem dX8_clearTemplates_25 : decode cX8_clearTemplates 25 = .ok (.iconst 0, 1) := by decide +kernel
theorem dX8_clearTemplates_26 : decode cX8_clearTemplates 26 = .ok (.putfield 135, 3) := by decide +kernel
theorem dX8_clearTemplates_29 : decode cX8_clearTemplates 29 = .ok (.iload_n 1, 1) := by decide +kernel
theorem dX8_clearTemplates_30 : decode cX8_clearTemplates 30 = .ok (.ireturn, 1) := by decide +kernel
abbrev rm_X8_clearTemplates : Room := { frames := 0, cells := 0, slots := 0, locals := 0 }
theorem w_X8_clearTemplates_e {X : gX} {σ : sg}  {r0 : (Int32 × sg)} (C : gC X cX8_clearTemplates 2 RX8 (some .int) rm_X8_clearTemplates)  (hQ : gQ X (qI (XG X) r0.1 r0.2)) (hf : f_X8_clearTemplates σ = some r0) : G X 2 σ 0 [(0, .ref (Xd X 0))] [] := by
  unfold f_X8_clearTemplates at hf
  refine g_aload_n C 0 dX8_clearTemplates_0 rfl ?_
  refine g_getr C 8 5 (75) (by decide) sh_0 rfl vc_8 (by decide) inXX8 wfl_264 dX8_clearTemplates_1 ?_
  refine g_getiN C 5 12 (by decide) sh_75 rfl vc_5 (by decide) inXX5 wfn_194 dX8_clearTemplates_4 ?_
  refine g_if_eq C 13 hf dX8_clearTemplates_7 (by decide) (fun hf => ?_) (fun hf => ?_)
  · refine g_aload_n C 0 dX8_clearTemplates_13 rfl ?_
    refine g_getr C 8 3 (61) (by decide) sh_0 rfl vc_8 (by decide) inXX8 wfl_262 dX8_clearTemplates_14 ?_
    refine g_getiN C 7 2 (by decide) sh_61 rfl vc_7 (by decide) inXX7 wfn_112 dX8_clearTemplates_17 ?_
    refine g_istore_n C (lv' := [(1, .int (σ 61 2)), (0, .ref (Xd X 0))]) dX8_clearTemplates_20 (by decide) rfl ?_
    refine g_aload_n C 1 dX8_clearTemplates_21 rfl ?_
    refine g_getr C 8 3 (61) (by decide) sh_0 rfl vc_8 (by decide) inXX8 wfl_262 dX8_clearTemplates_22 ?_
    refine g_iconst C (v := 0) dX8_clearTemplates_25 rfl ?_
    obtain ⟨s26, h1, hf⟩ := g_bind hf
    refine g_putN C 7 2 (by decide) sh_61 rfl (by decide) vc_7 (by decide) tyX7 tyX7_ok nmX7 inXX7 wfn_112 rfl (ty := .int) (by decide +kernel) rfl rfl dX8_clearTemplates_26 ?_
    rw [Option.some.inj h1]
    clear h1
    refine g_iload_n C 0 dX8_clearTemplates_29 rfl ?_
    have e0 : r0 = (σ 61 2, s26) := (Option.some.inj hf).symm
    exact g_iret C rfl hQ (by rw [e0]) rfl dX8_clearTemplates_30
  · refine g_bipush C (v := (-5)) dX8_clearTemplates_10 rfl ?_
    have e0 : r0 = ((-5 : Int32), σ) := (Option.some.inj hf).symm
    exact g_iret C rfl hQ (by rw [e0]) rfl dX8_clearTemplates_12
theorem c_X8_clearTemplates (l : Launch) {Gw : gW} (hI : g_I Gw) {σ : sg}  {r : (Int32 × sg)}  (hf : f_X8_clearTemplates σ = some r) : gM l Gw yX8_clearTemplates cX8_clearTemplates 2 (some .int) rm_X8_clearTemplates [.ref (Gw.2.2 0)] σ (qI (Gw) r.1 r.2) := by
  refine g_met hI (by decide) (Nat.le_of_ble_eq_true rfl) (fun X h1 h2 C hQ => ?_)
  subst h1; subst h2
  exact w_X8_clearTemplates_e C  hQ hf
theorem dX8_templateCount_0 : decode cX8_templateCount 0 = .ok (.aload_n 0, 1) := by decide +kernel
theorem dX8_templateCount_1 : decode cX8_templateCount 1 = .ok (.getfield 33, 3) := by decide +kernel
theorem dX8_templateCount_4 : decode cX8_templateCount 4 = .ok (.getfield 135, 3) := by decide +kernel
theorem dX8_templateCount_7 : decode cX8_templateCount 7 = .ok (.ireturn, 1) := by decide +kernel
abbrev rm_X8_templateCount : Room := { frames := 0, cells := 0, slots := 0, locals := 0 }
theorem w_X8_templateCount_e {X : gX} {σ : sg}  {r0 : Int32} (C : gC X cX8_templateCount 1 RX8 (some .int) rm_X8_templateCount)  (hQ : gQ X (qI (XG X) r0 σ)) (hf : f_X8_templateCount σ = some r0) : G X 1 σ 0 [(0, .ref (Xd X 0))] [] := by
  unfold f_X8_templateCount at hf
  refine g_aload_n C 0 dX8_templateCount_0 rfl ?_
  refine g_getr C 8 3 (61) (by decide) sh_0 rfl vc_8 (by decide) inXX8 wfl_262 dX8_templateCount_1 ?_
  refine g_getiN C 7 2 (by decide) sh_61 rfl vc_7 (by decide) inXX7 wfn_112 dX8_templateCount_4 ?_
  have e0 : r0 = σ 61 2 := (Option.some.inj hf).symm
  exact g_iret C rfl hQ (by rw [e0]) rfl dX8_templateCount_7
theorem c_X8_templateCount (l : Launch) {Gw : gW} (hI : g_I Gw) {σ : sg}  {r : Int32}  (hf : f_X8_templateCount σ = some r) : gM l Gw yX8_templateCount cX8_templateCount 1 (some .int) rm_X8_templateCount [.ref (Gw.2.2 0)] σ (qI (Gw) r σ) := by
  refine g_met hI (by decide) (Nat.le_of_ble_eq_true rfl) (fun X h1 h2 C hQ => ?_)
  subst h1; subst h2
  exact w_X8_templateCount_e C  hQ hf
theorem dX8_template_0 : decode cX8_template 0 = .ok (.iload_n 1, 1) := by decide +kernel
theorem dX8_template_1 : decode cX8_template 1 = .ok (.ifCond .lt 14, 3) := by decide +kernel
theorem dX8_template_4 : decode cX8_template 4 = .ok (.iload_n 1, 1) := by decide +kernel
theorem dX8_template_5 : decode cX8_template 5 = .ok (.aload_n 0, 1) := by decide +kernel
theorem dX8_template_6 : decode cX8_template 6 = .ok (.getfield 33, 3) := by decide +kernel
theorem dX8_template_9 : decode cX8_template 9 = .ok (.getfield 135, 3) := by decide +kernel
theorem dX8_template_12 : decode cX8_template 12 = .ok (.if_icmp .lt 5, 3) := by decide +kernel
theorem dX8_template_15 : decode cX8_template 15 = .ok (.iconst (-1), 1) := by decide +kernel
theorem dX8_template_16 : decode cX8_template 16 = .ok (.ireturn, 1) := by decide +kernel
theorem dX8_template_17 : decode cX8_template 17 = .ok (.iload_n 2, 1) := by decide +kernel
theorem dX8_template_18 : decode cX8_template 18 = .ok (.ifCond .lt 8, 3) := by decide +kernel
theorem dX8_template_21 : decode cX8_template 21 = .ok (.iload_n 2, 1) := by decide +kernel
theorem dX8_template_22 : decode cX8_template 22 = .ok (.iconst 3, 1) := by decide +kernel
theorem dX8_template_23 : decode cX8_template 23 = .ok (.if_icmp .le 6, 3) := by decide +kernel
theorem dX8_template_26 : decode cX8_template 26 = .ok (.bipush (-2), 2) := by decide +kernel
theorem dX8_template_28 : decode cX8_template 28 = .ok (.ireturn, 1) := by decide +kernel
theorem dX8_template_29 : decode cX8_template 29 = .ok (.iload_n 2, 1) := by decide +kernel
theorem dX8_template_30 : decode cX8_template 30 = .ok (.iconst 3, 1) := by decide +kernel
theorem dX8_template_31 : decode cX8_template 31 = .ok (.if_icmp .ne 15, 3) := by decide +kernel
theorem dX8_template_34 : decode cX8_template 34 = .ok (.aload_n 0, 1) := by decide +kernel
theorem dX8_template_35 : decode cX8_template 35 = .ok (.getfield 33, 3) := by decide +kernel
theorem dX8_template_38 : decode cX8_template 38 = .ok (.getfield 140, 3) := by decide +kernel
theorem dX8_template_41 : decode cX8_template 41 = .ok (.iload_n 1, 1) := by decide +kernel
theorem dX8_template_42 : decode cX8_template 42 = .ok (.iaload, 1) := by decide +kernel
theorem dX8_template_43 : decode cX8_template 43 = .ok (.goto 14, 3) := by decide +kernel
theorem dX8_template_46 : decode cX8_template 46 = .ok (.aload_n 0, 1) := by decide +kernel
theorem dX8_template_47 : decode cX8_template 47 = .ok (.getfield 33, 3) := by decide +kernel
theorem dX8_template_50 : decode cX8_template 50 = .ok (.getfield 143, 3) := by decide +kernel
theorem dX8_template_53 : decode cX8_template 53 = .ok (.iload_n 1, 1) := by decide +kernel
theorem dX8_template_54 : decode cX8_template 54 = .ok (.aaload, 1) := by decide +kernel
theorem dX8_template_55 : decode cX8_template 55 = .ok (.iload_n 2, 1) := by decide +kernel
theorem dX8_template_56 : decode cX8_template 56 = .ok (.iaload, 1) := by decide +kernel
theorem dX8_template_57 : decode cX8_template 57 = .ok (.ireturn, 1) := by decide +kernel
abbrev rm_X8_template : Room := { frames := 0, cells := 0, slots := 0, locals := 0 }
theorem w_X8_template_e {X : gX} {σ : sg} {p1 : Int32} {p2 : Int32} {r0 : Int32} (C : gC X cX8_template 3 RX8 (some .int) rm_X8_template)  (hQ : gQ X (qI (XG X) r0 σ)) (hf : f_X8_template σ p1 p2 = some r0) : G X 3 σ 0 [(0, .ref (Xd X 0)), (1, .int p1), (2, .int p2)] [] := by
  unfold f_X8_template at hf
  refine g_iload_n C 1 dX8_template_0 rfl ?_
  refine g_if_lt C 15 hf dX8_template_1 (by decide) (fun hf => ?_) (fun hf => ?_)
  · refine g_iconst C (v := (-1)) dX8_template_15 rfl ?_
    have e0 : r0 = (-1 : Int32) := (Option.some.inj hf).symm
    exact g_iret C rfl hQ (by rw [e0]) rfl dX8_template_16
  · refine g_iload_n C 1 dX8_template_4 rfl ?_
    refine g_aload_n C 0 dX8_template_5 rfl ?_
    refine g_getr C 8 3 (61) (by decide) sh_0 rfl vc_8 (by decide) inXX8 wfl_262 dX8_template_6 ?_
    refine g_getiN C 7 2 (by decide) sh_61 rfl vc_7 (by decide) inXX7 wfn_112 dX8_template_9 ?_
    refine g_icmp_lt C 17 hf dX8_template_12 (by decide) (fun hf => ?_) (fun hf => ?_)
    · refine g_iload_n C 2 dX8_template_17 rfl ?_
      refine g_if_lt C 26 hf dX8_template_18 (by decide) (fun hf => ?_) (fun hf => ?_)
      · refine g_bipush C (v := (-2)) dX8_template_26 rfl ?_
        have e0 : r0 = (-2 : Int32) := (Option.some.inj hf).symm
        exact g_iret C rfl hQ (by rw [e0]) rfl dX8_template_28
      · refine g_iload_n C 2 dX8_template_21 rfl ?_
        refine g_iconst C (v := 3) dX8_template_22 rfl ?_
        refine g_icmp_le C 29 hf dX8_template_23 (by decide) (fun hf => ?_) (fun hf => ?_)
        · refine g_iload_n C 2 dX8_template_29 rfl ?_
          refine g_iconst C (v := 3) dX8_template_30 rfl ?_
          refine g_icmp_ne C 46 hf dX8_template_31 (by decide) (fun hf => ?_) (fun hf => ?_)
          · refine g_aload_n C 0 dX8_template_34 rfl ?_
            refine g_getr C 8 3 (61) (by decide) sh_0 rfl vc_8 (by decide) inXX8 wfl_262 dX8_template_35 ?_
            refine g_getrN C 7 1 (71) (by decide) sh_61 rfl vc_7 (by decide) inXX7 wfn_109 dX8_template_38 ?_
            refine g_iload_n C 1 dX8_template_41 rfl ?_
            obtain ⟨v42, h1, hf⟩ := g_bind hf
            refine g_iald C h1 dX8_template_42 ?_
            clear h1
            refine g_goto C 57 dX8_template_43 (by decide) ?_
            have e0 : r0 = v42 := (Option.some.inj hf).symm
            exact g_iret C rfl hQ (by rw [e0]) rfl dX8_template_57
          · refine g_aload_n C 0 dX8_template_46 rfl ?_
            refine g_getr C 8 3 (61) (by decide) sh_0 rfl vc_8 (by decide) inXX8 wfl_262 dX8_template_47 ?_
            refine g_getrN C 7 0 (62) (by decide) sh_61 rfl vc_7 (by decide) inXX7 wfn_107 dX8_template_50 ?_
            refine g_iload_n C 1 dX8_template_53 rfl ?_
            obtain ⟨q54, h1, hf⟩ := g_bind hf
            refine g_aald C h1 dX8_template_54 ?_
            clear h1
            refine g_iload_n C 2 dX8_template_55 rfl ?_
            obtain ⟨v56, h1, hf⟩ := g_bind hf
            refine g_iald C h1 dX8_template_56 ?_
            clear h1
            have e0 : r0 = v56 := (Option.some.inj hf).symm
            exact g_iret C rfl hQ (by rw [e0]) rfl dX8_template_57
        · refine g_bipush C (v := (-2)) dX8_template_26 rfl ?_
          have e0 : r0 = (-2 : Int32) := (Option.some.inj hf).symm
          exact g_iret C rfl hQ (by rw [e0]) rfl dX8_template_28
    · refine g_iconst C (v := (-1)) dX8_template_15 rfl ?_
      have e0 : r0 = (-1 : Int32) := (Option.some.inj hf).symm
      exact g_iret C rfl hQ (by rw [e0]) rfl dX8_template_16
theorem c_X8_template (l : Launch) {Gw : gW} (hI : g_I Gw) {σ : sg} {p1 : Int32} {p2 : Int32} {r : Int32}  (hf : f_X8_template σ p1 p2 = some r) : gM l Gw yX8_template cX8_template 3 (some .int) rm_X8_template [.ref (Gw.2.2 0), .int p1, .int p2] σ (qI (Gw) r σ) := by
  refine g_met hI (by decide) (Nat.le_of_ble_eq_true rfl) (fun X h1 h2 C hQ => ?_)
  subst h1; subst h2
  exact w_X8_template_e C  hQ hf
theorem dX8_pack_0 : decode cX8_pack 0 = .ok (.aload_n 0, 1) := by decide +kernel
theorem dX8_pack_1 : decode cX8_pack 1 = .ok (.getfield 26, 3) := by decide +kernel
theorem dX8_pack_4 : decode cX8_pack 4 = .ok (.getfield 116, 3) := by decide +kernel
theorem dX8_pack_7 : decode cX8_pack 7 = .ok (.ifCond .ne 6, 3) := by decide +kernel
theorem dX8_pack_10 : decode cX8_pack 10 = .ok (.bipush (-6), 2) := by decide +kernel
theorem dX8_pack_12 : decode cX8_pack 12 = .ok (.ireturn, 1) := by decide +kernel
theorem dX8_pack_13 : decode cX8_pack 13 = .ok (.aload_n 0, 1) := by decide +kernel
theorem dX8_pack_14 : decode cX8_pack 14 = .ok (.getfield 51, 3) := by decide +kernel
theorem dX8_pack_17 : decode cX8_pack 17 = .ok (.invokevirtual 146, 3) := by decide +kernel
theorem dX8_pack_20 : decode cX8_pack 20 = .ok (.iconst 0, 1) := by decide +kernel
theorem dX8_pack_21 : decode cX8_pack 21 = .ok (.istore_n 1, 1) := by decide +kernel
theorem dX8_pack_22 : decode cX8_pack 22 = .ok (.iload_n 1, 1) := by decide +kernel
theorem dX8_pack_23 : decode cX8_pack 23 = .ok (.aload_n 0, 1) := by decide +kernel
theorem dX8_pack_24 : decode cX8_pack 24 = .ok (.getfield 26, 3) := by decide +kernel
theorem dX8_pack_27 : decode cX8_pack 27 = .ok (.getfield 119, 3) := by decide +kernel
theorem dX8_pack_30 : decode cX8_pack 30 = .ok (.if_icmp .ge 64, 3) := by decide +kernel
theorem dX8_pack_33 : decode cX8_pack 33 = .ok (.aload_n 0, 1) := by decide +kernel
theorem dX8_pack_34 : decode cX8_pack 34 = .ok (.getfield 42, 3) := by decide +kernel
theorem dX8_pack_37 : decode cX8_pack 37 = .ok (.aload_n 0, 1) := by decide +kernel
theorem dX8_pack_38 : decode cX8_pack 38 = .ok (.getfield 26, 3) := by decide +kernel
theorem dX8_pack_41 : decode cX8_pack 41 = .ok (.getfield 125, 3) := by decide +kernel
theorem dX8_pack_44 : decode cX8_pack 44 = .ok (.iload_n 1, 1) := by decide +kernel
theorem dX8_pack_45 : decode cX8_pack 45 = .ok (.iaload, 1) := by decide +kernel
theorem dX8_pack_46 : decode cX8_pack 46 = .ok (.aload_n 0, 1) := by decide +kernel
theorem dX8_pack_47 : decode cX8_pack 47 = .ok (.getfield 26, 3) := by decide +kernel
theorem dX8_pack_50 : decode cX8_pack 50 = .ok (.getfield 125, 3) := by decide +kernel
theorem dX8_pack_53 : decode cX8_pack 53 = .ok (.iload_n 1, 1) := by decide +kernel
theorem dX8_pack_54 : decode cX8_pack 54 = .ok (.iconst 1, 1) := by decide +kernel
theorem dX8_pack_55 : decode cX8_pack 55 = .ok (.iadd, 1) := by decide +kernel
theorem dX8_pack_56 : decode cX8_pack 56 = .ok (.iaload, 1) := by decide +kernel
theorem dX8_pack_57 : decode cX8_pack 57 = .ok (.invokevirtual 149, 3) := by decide +kernel
theorem dX8_pack_60 : decode cX8_pack 60 = .ok (.aload_n 0, 1) := by decide +kernel
theorem dX8_pack_61 : decode cX8_pack 61 = .ok (.getfield 33, 3) := by decide +kernel
theorem dX8_pack_64 : decode cX8_pack 64 = .ok (.getfield 135, 3) := by decide +kernel
theorem dX8_pack_67 : decode cX8_pack 67 = .ok (.ifCond .eq 18, 3) := by decide +kernel
theorem dX8_pack_70 : decode cX8_pack 70 = .ok (.aload_n 0, 1) := by decide +kernel
theorem dX8_pack_71 : decode cX8_pack 71 = .ok (.getfield 51, 3) := by decide +kernel
theorem dX8_pack_74 : decode cX8_pack 74 = .ok (.iload_n 1, 1) := by decide +kernel
theorem dX8_pack_75 : decode cX8_pack 75 = .ok (.aload_n 0, 1) := by decide +kernel
theorem dX8_pack_76 : decode cX8_pack 76 = .ok (.getfield 42, 3) := by decide +kernel
theorem dX8_pack_79 : decode cX8_pack 79 = .ok (.invokevirtual 153, 3) := by decide +kernel
theorem dX8_pack_82 : decode cX8_pack 82 = .ok (.ifCond .ne 6, 3) := by decide +kernel
theorem dX8_pack_85 : decode cX8_pack 85 = .ok (.bipush (-8), 2) := by decide +kernel
theorem dX8_pack_87 : decode cX8_pack 87 = .ok (.ireturn, 1) := by decide +kernel
theorem dX8_pack_88 : decode cX8_pack 88 = .ok (.iinc 1 1, 3) := by decide +kernel
theorem dX8_pack_91 : decode cX8_pack 91 = .ok (.goto (-69), 3) := by decide +kernel
theorem dX8_pack_94 : decode cX8_pack 94 = .ok (.aload_n 0, 1) := by decide +kernel
theorem dX8_pack_95 : decode cX8_pack 95 = .ok (.getfield 51, 3) := by decide +kernel
theorem dX8_pack_98 : decode cX8_pack 98 = .ok (.invokevirtual 157, 3) := by decide +kernel
theorem dX8_pack_101 : decode cX8_pack 101 = .ok (.aload_n 0, 1) := by decide +kernel
theorem dX8_pack_102 : decode cX8_pack 102 = .ok (.getfield 51, 3) := by decide +kernel
theorem dX8_pack_105 : decode cX8_pack 105 = .ok (.iconst 1, 1) := by decide +kernel
theorem dX8_pack_106 : decode cX8_pack 106 = .ok (.putfield 81, 3) := by decide +kernel
theorem dX8_pack_109 : decode cX8_pack 109 = .ok (.aload_n 0, 1) := by decide +kernel
theorem dX8_pack_110 : decode cX8_pack 110 = .ok (.getfield 51, 3) := by decide +kernel
theorem dX8_pack_113 : decode cX8_pack 113 = .ok (.getfield 160, 3) := by decide +kernel
theorem dX8_pack_116 : decode cX8_pack 116 = .ok (.ireturn, 1) := by decide +kernel
abbrev rm_X8_pack : Room := { frames := 6, cells := 0, slots := 0, locals := 183 }
theorem w_X8_pack_22 {X : gX} {x1 : Int32} {σ : sg} {r0 : (Int32 × sg)} {r1 : ((Int32 × sg) ⊕ (Int32 × sg))} (C : gC X cX8_pack 2 RX8 (some .int) rm_X8_pack)  (hQ : gQ X (qI (XG X) r0.1 r0.2)) (A1 : ∀ b, r1 = .inl b → G X 2 b.2 22 [(0, .ref (Xd X 0)), (1, .int b.1)] []) (B1 : ∀ b, r1 = .inr b → b = r0) (hf : B_X8_pack_22 x1 σ = some r1) : G X 2 σ 22 [(0, .ref (Xd X 0)), (1, .int x1)] [] := by
  unfold B_X8_pack_22 at hf
  refine g_iload_n C 1 dX8_pack_22 rfl ?_
  refine g_aload_n C 0 dX8_pack_23 rfl ?_
  refine g_getr C 8 2 (57) (by decide) sh_0 rfl vc_8 (by decide) inXX8 wfl_261 dX8_pack_24 ?_
  refine g_getiN C 1 3 (by decide) sh_57 rfl vc_1 (by decide) inXX1 wfn_83 dX8_pack_27 ?_
  refine g_icmp_ge C 94 hf dX8_pack_30 (by decide) (fun hf => ?_) (fun hf => ?_)
  · refine g_aload_n C 0 dX8_pack_94 rfl ?_
    refine g_getr C 8 5 (75) (by decide) sh_0 rfl vc_8 (by decide) inXX8 wfl_264 dX8_pack_95 ?_
    obtain ⟨s98, h1, hf⟩ := g_bind hf
    refine g_callVv C 0 [] (c_X5_writeCode (Xl X) (gC_I C)  h1) ⟨wml_505, wim_506, wse_507, win_7, wcd_508⟩ (by decide) sh_75 vc_5 rfl hd_X5_writeCode ⟨rfl, rfl⟩ ⟨Nat.le_of_ble_eq_true rfl, Nat.le_of_ble_eq_true rfl⟩ rfl rfl (Nat.le_of_ble_eq_true rfl) dX8_pack_98 ?_
    clear h1
    refine g_aload_n C 0 dX8_pack_101 rfl ?_
    refine g_getr C 8 5 (75) (by decide) sh_0 rfl vc_8 (by decide) inXX8 wfl_264 dX8_pack_102 ?_
    refine g_iconst C (v := 1) dX8_pack_105 rfl ?_
    obtain ⟨s106, h1, hf⟩ := g_bind hf
    refine g_putN C 5 12 (by decide) sh_75 rfl (by decide) vc_5 (by decide) tyX5 tyX5_ok nmX5 inXX5 wfn_194 rfl (ty := .boolean) (by decide +kernel) rfl rfl dX8_pack_106 ?_
    rw [Option.some.inj h1]
    clear h1
    refine g_aload_n C 0 dX8_pack_109 rfl ?_
    refine g_getr C 8 5 (75) (by decide) sh_0 rfl vc_8 (by decide) inXX8 wfl_264 dX8_pack_110 ?_
    refine g_getiN C 5 11 (by decide) sh_75 rfl vc_5 (by decide) inXX5 wfn_192 dX8_pack_113 ?_
    have e0 : r0 = (s106 75 11, s106) := (B1 _ (Option.some.inj hf).symm).symm
    exact g_iret C rfl hQ (by rw [e0]) rfl dX8_pack_116
  · refine g_aload_n C 0 dX8_pack_33 rfl ?_
    refine g_getr C 8 4 (72) (by decide) sh_0 rfl vc_8 (by decide) inXX8 wfl_263 dX8_pack_34 ?_
    refine g_aload_n C 0 dX8_pack_37 rfl ?_
    refine g_getr C 8 2 (57) (by decide) sh_0 rfl vc_8 (by decide) inXX8 wfl_261 dX8_pack_38 ?_
    refine g_getrN C 1 0 (58) (by decide) sh_57 rfl vc_1 (by decide) inXX1 wfn_76 dX8_pack_41 ?_
    refine g_iload_n C 1 dX8_pack_44 rfl ?_
    obtain ⟨v45, h1, hf⟩ := g_bind hf
    refine g_iald C h1 dX8_pack_45 ?_
    clear h1
    refine g_aload_n C 0 dX8_pack_46 rfl ?_
    refine g_getr C 8 2 (57) (by decide) sh_0 rfl vc_8 (by decide) inXX8 wfl_261 dX8_pack_47 ?_
    refine g_getrN C 1 0 (58) (by decide) sh_57 rfl vc_1 (by decide) inXX1 wfn_76 dX8_pack_50 ?_
    refine g_iload_n C 1 dX8_pack_53 rfl ?_
    refine g_iconst C (v := 1) dX8_pack_54 rfl ?_
    refine g_iadd C dX8_pack_55 ?_
    obtain ⟨v56, h1, hf⟩ := g_bind hf
    refine g_iald C h1 dX8_pack_56 ?_
    clear h1
    obtain ⟨s57, h1, hf⟩ := g_bind hf
    refine g_callVv C 2 [.int v45, .int v56] (c_X2_enter (Xl X) (gC_I C)  h1) ⟨wml_451, wim_452, wse_453, win_6, wcd_454⟩ (by decide) sh_72 vc_2 rfl hd_X2_enter ⟨rfl, rfl⟩ ⟨Nat.le_of_ble_eq_true rfl, Nat.le_of_ble_eq_true rfl⟩ rfl rfl (Nat.le_of_ble_eq_true rfl) dX8_pack_57 ?_
    clear h1
    refine g_aload_n C 0 dX8_pack_60 rfl ?_
    refine g_getr C 8 3 (61) (by decide) sh_0 rfl vc_8 (by decide) inXX8 wfl_262 dX8_pack_61 ?_
    refine g_getiN C 7 2 (by decide) sh_61 rfl vc_7 (by decide) inXX7 wfn_112 dX8_pack_64 ?_
    refine g_if_eq C 85 hf dX8_pack_67 (by decide) (fun hf => ?_) (fun hf => ?_)
    · refine g_bipush C (v := (-8)) dX8_pack_85 rfl ?_
      have e0 : r0 = ((-8 : Int32), s57) := (B1 _ (Option.some.inj hf).symm).symm
      exact g_iret C rfl hQ (by rw [e0]) rfl dX8_pack_87
    · refine g_aload_n C 0 dX8_pack_70 rfl ?_
      refine g_getr C 8 5 (75) (by decide) sh_0 rfl vc_8 (by decide) inXX8 wfl_264 dX8_pack_71 ?_
      refine g_iload_n C 1 dX8_pack_74 rfl ?_
      refine g_aload_n C 0 dX8_pack_75 rfl ?_
      refine g_getr C 8 4 (72) (by decide) sh_0 rfl vc_8 (by decide) inXX8 wfl_263 dX8_pack_76 ?_
      obtain ⟨q79, h1, hf⟩ := g_bind hf
      refine g_callVi C 2 [.int x1, .ref (Xd X 72)] (c_X5_takeBlock (Xl X) (gC_I C)  h1) ⟨wml_455, wim_456, wse_457, win_7, wcd_458⟩ (by decide) sh_75 vc_5 rfl hd_X5_takeBlock ⟨rfl, rfl⟩ ⟨Nat.le_of_ble_eq_true rfl, Nat.le_of_ble_eq_true rfl⟩ rfl rfl (Nat.le_of_ble_eq_true rfl) dX8_pack_79 ?_
      clear h1
      refine g_if_ne C 88 hf dX8_pack_82 (by decide) (fun hf => ?_) (fun hf => ?_)
      · refine g_bipush C (v := (-8)) dX8_pack_85 rfl ?_
        have e0 : r0 = ((-8 : Int32), q79.2) := (B1 _ (Option.some.inj hf).symm).symm
        exact g_iret C rfl hQ (by rw [e0]) rfl dX8_pack_87
      · refine g_iinc C (v := x1 + (1 : Int32)) (lv' := [(1, .int (x1 + (1 : Int32))), (0, .ref (Xd X 0))]) 1 dX8_pack_88 rfl rfl (by decide) rfl ?_
        refine g_goto C 22 dX8_pack_91 (by decide) ?_
        refine g_sub [1, 0] rfl ?_
        exact A1 (x1 + (1 : Int32), q79.2) (Option.some.inj hf).symm
theorem wl_X8_pack_22 {X : gX}  {r0 : (Int32 × sg)} (C : gC X cX8_pack 2 RX8 (some .int) rm_X8_pack)  (hQ : gQ X (qI (XG X) r0.1 r0.2))  {n : Nat} {a : (Int32 × sg)} (hf : L_X8_pack_22  n a = some r0) : G X 2 a.2 22 [(0, .ref (Xd X 0)), (1, .int a.1)] [] := by
  unfold L_X8_pack_22 at hf
  have key := g_loop_ind (res := r0) (f := fun a => B_X8_pack_22 a.1 a.2) (P := fun a => G X 2 a.2 22 [(0, .ref (Xd X 0)), (1, .int a.1)] []) (fun a r1 h1 k1 k2 => w_X8_pack_22 (x1 := a.1) (σ := a.2) C  hQ  k1 k2 h1)
  exact key n a hf
theorem w_X8_pack_e {X : gX} {σ : sg}  {r0 : (Int32 × sg)} (C : gC X cX8_pack 2 RX8 (some .int) rm_X8_pack)  (hQ : gQ X (qI (XG X) r0.1 r0.2)) (hf : f_X8_pack σ = some r0) : G X 2 σ 0 [(0, .ref (Xd X 0))] [] := by
  unfold f_X8_pack at hf
  refine g_aload_n C 0 dX8_pack_0 rfl ?_
  refine g_getr C 8 2 (57) (by decide) sh_0 rfl vc_8 (by decide) inXX8 wfl_261 dX8_pack_1 ?_
  refine g_getiN C 1 4 (by decide) sh_57 rfl vc_1 (by decide) inXX1 wfn_85 dX8_pack_4 ?_
  refine g_if_ne C 13 hf dX8_pack_7 (by decide) (fun hf => ?_) (fun hf => ?_)
  · refine g_bipush C (v := (-6)) dX8_pack_10 rfl ?_
    have e0 : r0 = ((-6 : Int32), σ) := (Option.some.inj hf).symm
    exact g_iret C rfl hQ (by rw [e0]) rfl dX8_pack_12
  · refine g_aload_n C 0 dX8_pack_13 rfl ?_
    refine g_getr C 8 5 (75) (by decide) sh_0 rfl vc_8 (by decide) inXX8 wfl_264 dX8_pack_14 ?_
    obtain ⟨s17, h1, hf⟩ := g_bind hf
    refine g_callVv C 0 [] (c_X5_clear (Xl X) (gC_I C)  h1) ⟨wml_447, wim_448, wse_449, win_7, wcd_450⟩ (by decide) sh_75 vc_5 rfl hd_X5_clear ⟨rfl, rfl⟩ ⟨Nat.le_of_ble_eq_true rfl, Nat.le_of_ble_eq_true rfl⟩ rfl rfl (Nat.le_of_ble_eq_true rfl) dX8_pack_17 ?_
    clear h1
    refine g_iconst C (v := 0) dX8_pack_20 rfl ?_
    refine g_istore_n C (lv' := [(1, .int (0 : Int32)), (0, .ref (Xd X 0))]) dX8_pack_21 (by decide) rfl ?_
    refine g_sub [1, 0] rfl ?_
    exact wl_X8_pack_22 (a := ((0 : Int32), s17)) C  hQ  hf
theorem c_X8_pack (l : Launch) {Gw : gW} (hI : g_I Gw) {σ : sg}  {r : (Int32 × sg)}  (hf : f_X8_pack σ = some r) : gM l Gw yX8_pack cX8_pack 2 (some .int) rm_X8_pack [.ref (Gw.2.2 0)] σ (qI (Gw) r.1 r.2) := by
  refine g_met hI (by decide) (Nat.le_of_ble_eq_true rfl) (fun X h1 h2 C hQ => ?_)
  subst h1; subst h2
  exact w_X8_pack_e C  hQ hf
theorem dX8_unpack_0 : decode cX8_unpack 0 = .ok (.aload_n 0, 1) := by decide +kernel
theorem dX8_unpack_1 : decode cX8_unpack 1 = .ok (.getfield 51, 3) := by decide +kernel
theorem dX8_unpack_4 : decode cX8_unpack 4 = .ok (.getfield 81, 3) := by decide +kernel
theorem dX8_unpack_7 : decode cX8_unpack 7 = .ok (.ifCond .ne 6, 3) := by decide +kernel
theorem dX8_unpack_10 : decode cX8_unpack 10 = .ok (.bipush (-5), 2) := by decide +kernel
theorem dX8_unpack_12 : decode cX8_unpack 12 = .ok (.ireturn, 1) := by decide +kernel
theorem dX8_unpack_13 : decode cX8_unpack 13 = .ok (.aload_n 0, 1) := by decide +kernel
theorem dX8_unpack_14 : decode cX8_unpack 14 = .ok (.getfield 51, 3) := by decide +kernel
theorem dX8_unpack_17 : decode cX8_unpack 17 = .ok (.iconst 0, 1) := by decide +kernel
theorem dX8_unpack_18 : decode cX8_unpack 18 = .ok (.putfield 81, 3) := by decide +kernel
theorem dX8_unpack_21 : decode cX8_unpack 21 = .ok (.aload_n 0, 1) := by decide +kernel
theorem dX8_unpack_22 : decode cX8_unpack 22 = .ok (.getfield 51, 3) := by decide +kernel
theorem dX8_unpack_25 : decode cX8_unpack 25 = .ok (.getfield 160, 3) := by decide +kernel
theorem dX8_unpack_28 : decode cX8_unpack 28 = .ok (.ireturn, 1) := by decide +kernel
abbrev rm_X8_unpack : Room := { frames := 0, cells := 0, slots := 0, locals := 0 }
theorem w_X8_unpack_e {X : gX} {σ : sg}  {r0 : (Int32 × sg)} (C : gC X cX8_unpack 1 RX8 (some .int) rm_X8_unpack)  (hQ : gQ X (qI (XG X) r0.1 r0.2)) (hf : f_X8_unpack σ = some r0) : G X 1 σ 0 [(0, .ref (Xd X 0))] [] := by
  unfold f_X8_unpack at hf
  refine g_aload_n C 0 dX8_unpack_0 rfl ?_
  refine g_getr C 8 5 (75) (by decide) sh_0 rfl vc_8 (by decide) inXX8 wfl_264 dX8_unpack_1 ?_
  refine g_getiN C 5 12 (by decide) sh_75 rfl vc_5 (by decide) inXX5 wfn_194 dX8_unpack_4 ?_
  refine g_if_ne C 13 hf dX8_unpack_7 (by decide) (fun hf => ?_) (fun hf => ?_)
  · refine g_bipush C (v := (-5)) dX8_unpack_10 rfl ?_
    have e0 : r0 = ((-5 : Int32), σ) := (Option.some.inj hf).symm
    exact g_iret C rfl hQ (by rw [e0]) rfl dX8_unpack_12
  · refine g_aload_n C 0 dX8_unpack_13 rfl ?_
    refine g_getr C 8 5 (75) (by decide) sh_0 rfl vc_8 (by decide) inXX8 wfl_264 dX8_unpack_14 ?_
    refine g_iconst C (v := 0) dX8_unpack_17 rfl ?_
    obtain ⟨s18, h1, hf⟩ := g_bind hf
    refine g_putN C 5 12 (by decide) sh_75 rfl (by decide) vc_5 (by decide) tyX5 tyX5_ok nmX5 inXX5 wfn_194 rfl (ty := .boolean) (by decide +kernel) rfl rfl dX8_unpack_18 ?_
    rw [Option.some.inj h1]
    clear h1
    refine g_aload_n C 0 dX8_unpack_21 rfl ?_
    refine g_getr C 8 5 (75) (by decide) sh_0 rfl vc_8 (by decide) inXX8 wfl_264 dX8_unpack_22 ?_
    refine g_getiN C 5 11 (by decide) sh_75 rfl vc_5 (by decide) inXX5 wfn_192 dX8_unpack_25 ?_
    have e0 : r0 = (s18 75 11, s18) := (Option.some.inj hf).symm
    exact g_iret C rfl hQ (by rw [e0]) rfl dX8_unpack_28
theorem c_X8_unpack (l : Launch) {Gw : gW} (hI : g_I Gw) {σ : sg}  {r : (Int32 × sg)}  (hf : f_X8_unpack σ = some r) : gM l Gw yX8_unpack cX8_unpack 1 (some .int) rm_X8_unpack [.ref (Gw.2.2 0)] σ (qI (Gw) r.1 r.2) := by
  refine g_met hI (by decide) (Nat.le_of_ble_eq_true rfl) (fun X h1 h2 C hQ => ?_)
  subst h1; subst h2
  exact w_X8_unpack_e C  hQ hf
theorem dX8_bundleCount_0 : decode cX8_bundleCount 0 = .ok (.aload_n 0, 1) := by decide +kernel
theorem dX8_bundleCount_1 : decode cX8_bundleCount 1 = .ok (.getfield 51, 3) := by decide +kernel
theorem dX8_bundleCount_4 : decode cX8_bundleCount 4 = .ok (.getfield 81, 3) := by decide +kernel
theorem dX8_bundleCount_7 : decode cX8_bundleCount 7 = .ok (.ifCond .eq 13, 3) := by decide +kernel
theorem dX8_bundleCount_10 : decode cX8_bundleCount 10 = .ok (.aload_n 0, 1) := by decide +kernel
theorem dX8_bundleCount_11 : decode cX8_bundleCount 11 = .ok (.getfield 51, 3) := by decide +kernel
theorem dX8_bundleCount_14 : decode cX8_bundleCount 14 = .ok (.getfield 160, 3) := by decide +kernel
theorem dX8_bundleCount_17 : decode cX8_bundleCount 17 = .ok (.goto 5, 3) := by decide +kernel
theorem dX8_bundleCount_20 : decode cX8_bundleCount 20 = .ok (.bipush (-5), 2) := by decide +kernel
theorem dX8_bundleCount_22 : decode cX8_bundleCount 22 = .ok (.ireturn, 1) := by decide +kernel
abbrev rm_X8_bundleCount : Room := { frames := 0, cells := 0, slots := 0, locals := 0 }
theorem w_X8_bundleCount_e {X : gX} {σ : sg}  {r0 : Int32} (C : gC X cX8_bundleCount 1 RX8 (some .int) rm_X8_bundleCount)  (hQ : gQ X (qI (XG X) r0 σ)) (hf : f_X8_bundleCount σ = some r0) : G X 1 σ 0 [(0, .ref (Xd X 0))] [] := by
  unfold f_X8_bundleCount at hf
  refine g_aload_n C 0 dX8_bundleCount_0 rfl ?_
  refine g_getr C 8 5 (75) (by decide) sh_0 rfl vc_8 (by decide) inXX8 wfl_264 dX8_bundleCount_1 ?_
  refine g_getiN C 5 12 (by decide) sh_75 rfl vc_5 (by decide) inXX5 wfn_194 dX8_bundleCount_4 ?_
  refine g_if_eq C 20 hf dX8_bundleCount_7 (by decide) (fun hf => ?_) (fun hf => ?_)
  · refine g_bipush C (v := (-5)) dX8_bundleCount_20 rfl ?_
    have e0 : r0 = (-5 : Int32) := (Option.some.inj hf).symm
    exact g_iret C rfl hQ (by rw [e0]) rfl dX8_bundleCount_22
  · refine g_aload_n C 0 dX8_bundleCount_10 rfl ?_
    refine g_getr C 8 5 (75) (by decide) sh_0 rfl vc_8 (by decide) inXX8 wfl_264 dX8_bundleCount_11 ?_
    refine g_getiN C 5 11 (by decide) sh_75 rfl vc_5 (by decide) inXX5 wfn_192 dX8_bundleCount_14 ?_
    refine g_goto C 22 dX8_bundleCount_17 (by decide) ?_
    have e0 : r0 = σ 75 11 := (Option.some.inj hf).symm
    exact g_iret C rfl hQ (by rw [e0]) rfl dX8_bundleCount_22
theorem c_X8_bundleCount (l : Launch) {Gw : gW} (hI : g_I Gw) {σ : sg}  {r : Int32}  (hf : f_X8_bundleCount σ = some r) : gM l Gw yX8_bundleCount cX8_bundleCount 1 (some .int) rm_X8_bundleCount [.ref (Gw.2.2 0)] σ (qI (Gw) r σ) := by
  refine g_met hI (by decide) (Nat.le_of_ble_eq_true rfl) (fun X h1 h2 C hQ => ?_)
  subst h1; subst h2
  exact w_X8_bundleCount_e C  hQ hf
theorem dX8_bundle_0 : decode cX8_bundle 0 = .ok (.aload_n 0, 1) := by decide +kernel
theorem dX8_bundle_1 : decode cX8_bundle 1 = .ok (.getfield 51, 3) := by decide +kernel
theorem dX8_bundle_4 : decode cX8_bundle 4 = .ok (.getfield 81, 3) := by decide +kernel
theorem dX8_bundle_7 : decode cX8_bundle 7 = .ok (.ifCond .ne 6, 3) := by decide +kernel
theorem dX8_bundle_10 : decode cX8_bundle 10 = .ok (.bipush (-5), 2) := by decide +kernel
theorem dX8_bundle_12 : decode cX8_bundle 12 = .ok (.ireturn, 1) := by decide +kernel
theorem dX8_bundle_13 : decode cX8_bundle 13 = .ok (.iload_n 1, 1) := by decide +kernel
theorem dX8_bundle_14 : decode cX8_bundle 14 = .ok (.ifCond .lt 14, 3) := by decide +kernel
theorem dX8_bundle_17 : decode cX8_bundle 17 = .ok (.iload_n 1, 1) := by decide +kernel
theorem dX8_bundle_18 : decode cX8_bundle 18 = .ok (.aload_n 0, 1) := by decide +kernel
theorem dX8_bundle_19 : decode cX8_bundle 19 = .ok (.getfield 51, 3) := by decide +kernel
theorem dX8_bundle_22 : decode cX8_bundle 22 = .ok (.getfield 160, 3) := by decide +kernel
theorem dX8_bundle_25 : decode cX8_bundle 25 = .ok (.if_icmp .lt 5, 3) := by decide +kernel
theorem dX8_bundle_28 : decode cX8_bundle 28 = .ok (.iconst (-1), 1) := by decide +kernel
theorem dX8_bundle_29 : decode cX8_bundle 29 = .ok (.ireturn, 1) := by decide +kernel
theorem dX8_bundle_30 : decode cX8_bundle 30 = .ok (.iload_n 2, 1) := by decide +kernel
theorem dX8_bundle_31 : decode cX8_bundle 31 = .ok (.ifCond .lt 8, 3) := by decide +kernel
theorem dX8_bundle_34 : decode cX8_bundle 34 = .ok (.iload_n 2, 1) := by decide +kernel
theorem dX8_bundle_35 : decode cX8_bundle 35 = .ok (.iconst 4, 1) := by decide +kernel
theorem dX8_bundle_36 : decode cX8_bundle 36 = .ok (.if_icmp .le 6, 3) := by decide +kernel
theorem dX8_bundle_39 : decode cX8_bundle 39 = .ok (.bipush (-2), 2) := by decide +kernel
theorem dX8_bundle_41 : decode cX8_bundle 41 = .ok (.ireturn, 1) := by decide +kernel
theorem dX8_bundle_42 : decode cX8_bundle 42 = .ok (.iload_n 2, 1) := by decide +kernel
theorem dX8_bundle_43 : decode cX8_bundle 43 = .ok (.iconst 3, 1) := by decide +kernel
theorem dX8_bundle_44 : decode cX8_bundle 44 = .ok (.if_icmp .ne 13, 3) := by decide +kernel
theorem dX8_bundle_47 : decode cX8_bundle 47 = .ok (.aload_n 0, 1) := by decide +kernel
theorem dX8_bundle_48 : decode cX8_bundle 48 = .ok (.getfield 51, 3) := by decide +kernel
theorem dX8_bundle_51 : decode cX8_bundle 51 = .ok (.getfield 161, 3) := by decide +kernel
theorem dX8_bundle_54 : decode cX8_bundle 54 = .ok (.iload_n 1, 1) := by decide +kernel
theorem dX8_bundle_55 : decode cX8_bundle 55 = .ok (.iaload, 1) := by decide +kernel
theorem dX8_bundle_56 : decode cX8_bundle 56 = .ok (.ireturn, 1) := by decide +kernel
theorem dX8_bundle_57 : decode cX8_bundle 57 = .ok (.iload_n 2, 1) := by decide +kernel
theorem dX8_bundle_58 : decode cX8_bundle 58 = .ok (.iconst 4, 1) := by decide +kernel
theorem dX8_bundle_59 : decode cX8_bundle 59 = .ok (.if_icmp .ne 15, 3) := by decide +kernel
theorem dX8_bundle_62 : decode cX8_bundle 62 = .ok (.aload_n 0, 1) := by decide +kernel
theorem dX8_bundle_63 : decode cX8_bundle 63 = .ok (.getfield 51, 3) := by decide +kernel
theorem dX8_bundle_66 : decode cX8_bundle 66 = .ok (.getfield 164, 3) := by decide +kernel
theorem dX8_bundle_69 : decode cX8_bundle 69 = .ok (.iload_n 1, 1) := by decide +kernel
theorem dX8_bundle_70 : decode cX8_bundle 70 = .ok (.iaload, 1) := by decide +kernel
theorem dX8_bundle_71 : decode cX8_bundle 71 = .ok (.goto 14, 3) := by decide +kernel
theorem dX8_bundle_74 : decode cX8_bundle 74 = .ok (.aload_n 0, 1) := by decide +kernel
theorem dX8_bundle_75 : decode cX8_bundle 75 = .ok (.getfield 51, 3) := by decide +kernel
theorem dX8_bundle_78 : decode cX8_bundle 78 = .ok (.getfield 167, 3) := by decide +kernel
theorem dX8_bundle_81 : decode cX8_bundle 81 = .ok (.iload_n 1, 1) := by decide +kernel
theorem dX8_bundle_82 : decode cX8_bundle 82 = .ok (.aaload, 1) := by decide +kernel
theorem dX8_bundle_83 : decode cX8_bundle 83 = .ok (.iload_n 2, 1) := by decide +kernel
theorem dX8_bundle_84 : decode cX8_bundle 84 = .ok (.iaload, 1) := by decide +kernel
theorem dX8_bundle_85 : decode cX8_bundle 85 = .ok (.ireturn, 1) := by decide +kernel
abbrev rm_X8_bundle : Room := { frames := 0, cells := 0, slots := 0, locals := 0 }
theorem w_X8_bundle_e {X : gX} {σ : sg} {p1 : Int32} {p2 : Int32} {r0 : Int32} (C : gC X cX8_bundle 3 RX8 (some .int) rm_X8_bundle)  (hQ : gQ X (qI (XG X) r0 σ)) (hf : f_X8_bundle σ p1 p2 = some r0) : G X 3 σ 0 [(0, .ref (Xd X 0)), (1, .int p1), (2, .int p2)] [] := by
  unfold f_X8_bundle at hf
  refine g_aload_n C 0 dX8_bundle_0 rfl ?_
  refine g_getr C 8 5 (75) (by decide) sh_0 rfl vc_8 (by decide) inXX8 wfl_264 dX8_bundle_1 ?_
  refine g_getiN C 5 12 (by decide) sh_75 rfl vc_5 (by decide) inXX5 wfn_194 dX8_bundle_4 ?_
  refine g_if_ne C 13 hf dX8_bundle_7 (by decide) (fun hf => ?_) (fun hf => ?_)
  · refine g_bipush C (v := (-5)) dX8_bundle_10 rfl ?_
    have e0 : r0 = (-5 : Int32) := (Option.some.inj hf).symm
    exact g_iret C rfl hQ (by rw [e0]) rfl dX8_bundle_12
  · refine g_iload_n C 1 dX8_bundle_13 rfl ?_
    refine g_if_lt C 28 hf dX8_bundle_14 (by decide) (fun hf => ?_) (fun hf => ?_)
    · refine g_iconst C (v := (-1)) dX8_bundle_28 rfl ?_
      have e0 : r0 = (-1 : Int32) := (Option.some.inj hf).symm
      exact g_iret C rfl hQ (by rw [e0]) rfl dX8_bundle_29
    · refine g_iload_n C 1 dX8_bundle_17 rfl ?_
      refine g_aload_n C 0 dX8_bundle_18 rfl ?_
      refine g_getr C 8 5 (75) (by decide) sh_0 rfl vc_8 (by decide) inXX8 wfl_264 dX8_bundle_19 ?_
      refine g_getiN C 5 11 (by decide) sh_75 rfl vc_5 (by decide) inXX5 wfn_192 dX8_bundle_22 ?_
      refine g_icmp_lt C 30 hf dX8_bundle_25 (by decide) (fun hf => ?_) (fun hf => ?_)
      · refine g_iload_n C 2 dX8_bundle_30 rfl ?_
        refine g_if_lt C 39 hf dX8_bundle_31 (by decide) (fun hf => ?_) (fun hf => ?_)
        · refine g_bipush C (v := (-2)) dX8_bundle_39 rfl ?_
          have e0 : r0 = (-2 : Int32) := (Option.some.inj hf).symm
          exact g_iret C rfl hQ (by rw [e0]) rfl dX8_bundle_41
        · refine g_iload_n C 2 dX8_bundle_34 rfl ?_
          refine g_iconst C (v := 4) dX8_bundle_35 rfl ?_
          refine g_icmp_le C 42 hf dX8_bundle_36 (by decide) (fun hf => ?_) (fun hf => ?_)
          · refine g_iload_n C 2 dX8_bundle_42 rfl ?_
            refine g_iconst C (v := 3) dX8_bundle_43 rfl ?_
            refine g_icmp_ne C 57 hf dX8_bundle_44 (by decide) (fun hf => ?_) (fun hf => ?_)
            · refine g_aload_n C 0 dX8_bundle_47 rfl ?_
              refine g_getr C 8 5 (75) (by decide) sh_0 rfl vc_8 (by decide) inXX8 wfl_264 dX8_bundle_48 ?_
              refine g_getrN C 5 2 (137) (by decide) sh_75 rfl vc_5 (by decide) inXX5 wfn_172 dX8_bundle_51 ?_
              refine g_iload_n C 1 dX8_bundle_54 rfl ?_
              obtain ⟨v55, h1, hf⟩ := g_bind hf
              refine g_iald C h1 dX8_bundle_55 ?_
              clear h1
              have e0 : r0 = v55 := (Option.some.inj hf).symm
              exact g_iret C rfl hQ (by rw [e0]) rfl dX8_bundle_56
            · refine g_iload_n C 2 dX8_bundle_57 rfl ?_
              refine g_iconst C (v := 4) dX8_bundle_58 rfl ?_
              refine g_icmp_ne C 74 hf dX8_bundle_59 (by decide) (fun hf => ?_) (fun hf => ?_)
              · refine g_aload_n C 0 dX8_bundle_62 rfl ?_
                refine g_getr C 8 5 (75) (by decide) sh_0 rfl vc_8 (by decide) inXX8 wfl_264 dX8_bundle_63 ?_
                refine g_getrN C 5 3 (138) (by decide) sh_75 rfl vc_5 (by decide) inXX5 wfn_174 dX8_bundle_66 ?_
                refine g_iload_n C 1 dX8_bundle_69 rfl ?_
                obtain ⟨v70, h1, hf⟩ := g_bind hf
                refine g_iald C h1 dX8_bundle_70 ?_
                clear h1
                refine g_goto C 85 dX8_bundle_71 (by decide) ?_
                have e0 : r0 = v70 := (Option.some.inj hf).symm
                exact g_iret C rfl hQ (by rw [e0]) rfl dX8_bundle_85
              · refine g_aload_n C 0 dX8_bundle_74 rfl ?_
                refine g_getr C 8 5 (75) (by decide) sh_0 rfl vc_8 (by decide) inXX8 wfl_264 dX8_bundle_75 ?_
                refine g_getrN C 5 1 (76) (by decide) sh_75 rfl vc_5 (by decide) inXX5 wfn_170 dX8_bundle_78 ?_
                refine g_iload_n C 1 dX8_bundle_81 rfl ?_
                obtain ⟨q82, h1, hf⟩ := g_bind hf
                refine g_aald C h1 dX8_bundle_82 ?_
                clear h1
                refine g_iload_n C 2 dX8_bundle_83 rfl ?_
                obtain ⟨v84, h1, hf⟩ := g_bind hf
                refine g_iald C h1 dX8_bundle_84 ?_
                clear h1
                have e0 : r0 = v84 := (Option.some.inj hf).symm
                exact g_iret C rfl hQ (by rw [e0]) rfl dX8_bundle_85
          · refine g_bipush C (v := (-2)) dX8_bundle_39 rfl ?_
            have e0 : r0 = (-2 : Int32) := (Option.some.inj hf).symm
            exact g_iret C rfl hQ (by rw [e0]) rfl dX8_bundle_41
      · refine g_iconst C (v := (-1)) dX8_bundle_28 rfl ?_
        have e0 : r0 = (-1 : Int32) := (Option.some.inj hf).symm
        exact g_iret C rfl hQ (by rw [e0]) rfl dX8_bundle_29
theorem c_X8_bundle (l : Launch) {Gw : gW} (hI : g_I Gw) {σ : sg} {p1 : Int32} {p2 : Int32} {r : Int32}  (hf : f_X8_bundle σ p1 p2 = some r) : gM l Gw yX8_bundle cX8_bundle 3 (some .int) rm_X8_bundle [.ref (Gw.2.2 0), .int p1, .int p2] σ (qI (Gw) r σ) := by
  refine g_met hI (by decide) (Nat.le_of_ble_eq_true rfl) (fun X h1 h2 C hQ => ?_)
  subst h1; subst h2
  exact w_X8_bundle_e C  hQ hf
theorem dX8_placeOf_0 : decode cX8_placeOf 0 = .ok (.aload_n 0, 1) := by decide +kernel
theorem dX8_placeOf_1 : decode cX8_placeOf 1 = .ok (.getfield 51, 3) := by decide +kernel
theorem dX8_placeOf_4 : decode cX8_placeOf 4 = .ok (.getfield 81, 3) := by decide +kernel
theorem dX8_placeOf_7 : decode cX8_placeOf 7 = .ok (.ifCond .ne 6, 3) := by decide +kernel
theorem dX8_placeOf_10 : decode cX8_placeOf 10 = .ok (.bipush (-5), 2) := by decide +kernel
theorem dX8_placeOf_12 : decode cX8_placeOf 12 = .ok (.ireturn, 1) := by decide +kernel
theorem dX8_placeOf_13 : decode cX8_placeOf 13 = .ok (.aload_n 0, 1) := by decide +kernel
theorem dX8_placeOf_14 : decode cX8_placeOf 14 = .ok (.getfield 10, 3) := by decide +kernel
theorem dX8_placeOf_17 : decode cX8_placeOf 17 = .ok (.iload_n 1, 1) := by decide +kernel
theorem dX8_placeOf_18 : decode cX8_placeOf 18 = .ok (.invokevirtual 100, 3) := by decide +kernel
theorem dX8_placeOf_21 : decode cX8_placeOf 21 = .ok (.ifCond .ne 5, 3) := by decide +kernel
theorem dX8_placeOf_24 : decode cX8_placeOf 24 = .ok (.iconst (-1), 1) := by decide +kernel
theorem dX8_placeOf_25 : decode cX8_placeOf 25 = .ok (.ireturn, 1) := by decide +kernel
theorem dX8_placeOf_26 : decode cX8_placeOf 26 = .ok (.iload_n 2, 1) := by decide +kernel
theorem dX8_placeOf_27 : decode cX8_placeOf 27 = .ok (.tableswitch 55 0 2 #[25, 35, 45], 25) := by decide +kernel
theorem dX8_placeOf_52 : decode cX8_placeOf 52 = .ok (.aload_n 0, 1) := by decide +kernel
theorem dX8_placeOf_53 : decode cX8_placeOf 53 = .ok (.getfield 51, 3) := by decide +kernel
theorem dX8_placeOf_56 : decode cX8_placeOf 56 = .ok (.getfield 170, 3) := by decide +kernel
theorem dX8_placeOf_59 : decode cX8_placeOf 59 = .ok (.iload_n 1, 1) := by decide +kernel
theorem dX8_placeOf_60 : decode cX8_placeOf 60 = .ok (.iaload, 1) := by decide +kernel
theorem dX8_placeOf_61 : decode cX8_placeOf 61 = .ok (.ireturn, 1) := by decide +kernel
theorem dX8_placeOf_62 : decode cX8_placeOf 62 = .ok (.aload_n 0, 1) := by decide +kernel
theorem dX8_placeOf_63 : decode cX8_placeOf 63 = .ok (.getfield 51, 3) := by decide +kernel
theorem dX8_placeOf_66 : decode cX8_placeOf 66 = .ok (.getfield 173, 3) := by decide +kernel
theorem dX8_placeOf_69 : decode cX8_placeOf 69 = .ok (.iload_n 1, 1) := by decide +kernel
theorem dX8_placeOf_70 : decode cX8_placeOf 70 = .ok (.iaload, 1) := by decide +kernel
theorem dX8_placeOf_71 : decode cX8_placeOf 71 = .ok (.ireturn, 1) := by decide +kernel
theorem dX8_placeOf_72 : decode cX8_placeOf 72 = .ok (.aload_n 0, 1) := by decide +kernel
theorem dX8_placeOf_73 : decode cX8_placeOf 73 = .ok (.getfield 51, 3) := by decide +kernel
theorem dX8_placeOf_76 : decode cX8_placeOf 76 = .ok (.getfield 176, 3) := by decide +kernel
theorem dX8_placeOf_79 : decode cX8_placeOf 79 = .ok (.iload_n 1, 1) := by decide +kernel
theorem dX8_placeOf_80 : decode cX8_placeOf 80 = .ok (.iaload, 1) := by decide +kernel
theorem dX8_placeOf_81 : decode cX8_placeOf 81 = .ok (.ireturn, 1) := by decide +kernel
theorem dX8_placeOf_82 : decode cX8_placeOf 82 = .ok (.bipush (-2), 2) := by decide +kernel
theorem dX8_placeOf_84 : decode cX8_placeOf 84 = .ok (.ireturn, 1) := by decide +kernel
abbrev rm_X8_placeOf : Room := { frames := 1, cells := 0, slots := 0, locals := 21 }
theorem w_X8_placeOf_e {X : gX} {σ : sg} {p1 : Int32} {p2 : Int32} {r0 : Int32} (C : gC X cX8_placeOf 3 RX8 (some .int) rm_X8_placeOf)  (hQ : gQ X (qI (XG X) r0 σ)) (hf : f_X8_placeOf σ p1 p2 = some r0) : G X 3 σ 0 [(0, .ref (Xd X 0)), (1, .int p1), (2, .int p2)] [] := by
  unfold f_X8_placeOf at hf
  refine g_aload_n C 0 dX8_placeOf_0 rfl ?_
  refine g_getr C 8 5 (75) (by decide) sh_0 rfl vc_8 (by decide) inXX8 wfl_264 dX8_placeOf_1 ?_
  refine g_getiN C 5 12 (by decide) sh_75 rfl vc_5 (by decide) inXX5 wfn_194 dX8_placeOf_4 ?_
  refine g_if_ne C 13 hf dX8_placeOf_7 (by decide) (fun hf => ?_) (fun hf => ?_)
  · refine g_bipush C (v := (-5)) dX8_placeOf_10 rfl ?_
    have e0 : r0 = (-5 : Int32) := (Option.some.inj hf).symm
    exact g_iret C rfl hQ (by rw [e0]) rfl dX8_placeOf_12
  · refine g_aload_n C 0 dX8_placeOf_13 rfl ?_
    refine g_getr C 8 0 (1) (by decide) sh_0 rfl vc_8 (by decide) inXX8 wfl_259 dX8_placeOf_14 ?_
    refine g_iload_n C 1 dX8_placeOf_17 rfl ?_
    obtain ⟨v18, h1, hf⟩ := g_bind hf
    refine g_callVi C 1 [.int p1] (c_X6_has (Xl X) (gC_I C)  h1) ⟨wml_359, wim_340, wse_341, win_2, wcd_342⟩ (by decide) sh_1 vc_6 rfl hd_X6_has ⟨rfl, rfl⟩ ⟨Nat.le_of_ble_eq_true rfl, Nat.le_of_ble_eq_true rfl⟩ rfl rfl (Nat.le_of_ble_eq_true rfl) dX8_placeOf_18 ?_
    clear h1
    refine g_if_ne C 26 hf dX8_placeOf_21 (by decide) (fun hf => ?_) (fun hf => ?_)
    · refine g_iconst C (v := (-1)) dX8_placeOf_24 rfl ?_
      have e0 : r0 = (-1 : Int32) := (Option.some.inj hf).symm
      exact g_iret C rfl hQ (by rw [e0]) rfl dX8_placeOf_25
    · refine g_iload_n C 2 dX8_placeOf_26 rfl ?_
      refine g_if hf (fun hf e1 => ?_) (fun hf n0 => ?_)
      · refine g_tcase C (0 : Int32) 52 dX8_placeOf_27 e1 (by decide) (by decide) rfl (by decide) ?_
        refine g_aload_n C 0 dX8_placeOf_52 rfl ?_
        refine g_getr C 8 5 (75) (by decide) sh_0 rfl vc_8 (by decide) inXX8 wfl_264 dX8_placeOf_53 ?_
        refine g_getrN C 5 4 (139) (by decide) sh_75 rfl vc_5 (by decide) inXX5 wfn_176 dX8_placeOf_56 ?_
        refine g_iload_n C 1 dX8_placeOf_59 rfl ?_
        obtain ⟨v60, h1, hf⟩ := g_bind hf
        refine g_iald C h1 dX8_placeOf_60 ?_
        clear h1
        have e0 : r0 = v60 := (Option.some.inj hf).symm
        exact g_iret C rfl hQ (by rw [e0]) rfl dX8_placeOf_61
      · refine g_if hf (fun hf e1 => ?_) (fun hf n1 => ?_)
        · refine g_tcase C (1 : Int32) 62 dX8_placeOf_27 e1 (by decide) (by decide) rfl (by decide) ?_
          refine g_aload_n C 0 dX8_placeOf_62 rfl ?_
          refine g_getr C 8 5 (75) (by decide) sh_0 rfl vc_8 (by decide) inXX8 wfl_264 dX8_placeOf_63 ?_
          refine g_getrN C 5 5 (140) (by decide) sh_75 rfl vc_5 (by decide) inXX5 wfn_178 dX8_placeOf_66 ?_
          refine g_iload_n C 1 dX8_placeOf_69 rfl ?_
          obtain ⟨v70, h1, hf⟩ := g_bind hf
          refine g_iald C h1 dX8_placeOf_70 ?_
          clear h1
          have e0 : r0 = v70 := (Option.some.inj hf).symm
          exact g_iret C rfl hQ (by rw [e0]) rfl dX8_placeOf_71
        · refine g_if hf (fun hf e1 => ?_) (fun hf n2 => ?_)
          · refine g_tcase C (2 : Int32) 72 dX8_placeOf_27 e1 (by decide) (by decide) rfl (by decide) ?_
            refine g_aload_n C 0 dX8_placeOf_72 rfl ?_
            refine g_getr C 8 5 (75) (by decide) sh_0 rfl vc_8 (by decide) inXX8 wfl_264 dX8_placeOf_73 ?_
            refine g_getrN C 5 6 (141) (by decide) sh_75 rfl vc_5 (by decide) inXX5 wfn_181 dX8_placeOf_76 ?_
            refine g_iload_n C 1 dX8_placeOf_79 rfl ?_
            obtain ⟨v80, h1, hf⟩ := g_bind hf
            refine g_iald C h1 dX8_placeOf_80 ?_
            clear h1
            have e0 : r0 = v80 := (Option.some.inj hf).symm
            exact g_iret C rfl hQ (by rw [e0]) rfl dX8_placeOf_81
          · refine g_tout C 82 dX8_placeOf_27 (by have := lv_neT (a := 0) n0 rfl; have := lv_neT (a := 1) n1 rfl; have := lv_neT (a := 2) n2 rfl; omega) (by decide) ?_
            refine g_bipush C (v := (-2)) dX8_placeOf_82 rfl ?_
            have e0 : r0 = (-2 : Int32) := (Option.some.inj hf).symm
            exact g_iret C rfl hQ (by rw [e0]) rfl dX8_placeOf_84
theorem c_X8_placeOf (l : Launch) {Gw : gW} (hI : g_I Gw) {σ : sg} {p1 : Int32} {p2 : Int32} {r : Int32}  (hf : f_X8_placeOf σ p1 p2 = some r) : gM l Gw yX8_placeOf cX8_placeOf 3 (some .int) rm_X8_placeOf [.ref (Gw.2.2 0), .int p1, .int p2] σ (qI (Gw) r σ) := by
  refine g_met hI (by decide) (Nat.le_of_ble_eq_true rfl) (fun X h1 h2 C hQ => ?_)
  subst h1; subst h2
  exact w_X8_placeOf_e C  hQ hf
theorem dX8_cycles_0 : decode cX8_cycles 0 = .ok (.aload_n 0, 1) := by decide +kernel
theorem dX8_cycles_1 : decode cX8_cycles 1 = .ok (.getfield 51, 3) := by decide +kernel
theorem dX8_cycles_4 : decode cX8_cycles 4 = .ok (.getfield 81, 3) := by decide +kernel
theorem dX8_cycles_7 : decode cX8_cycles 7 = .ok (.ifCond .ne 6, 3) := by decide +kernel
theorem dX8_cycles_10 : decode cX8_cycles 10 = .ok (.bipush (-5), 2) := by decide +kernel
theorem dX8_cycles_12 : decode cX8_cycles 12 = .ok (.ireturn, 1) := by decide +kernel
theorem dX8_cycles_13 : decode cX8_cycles 13 = .ok (.aload_n 0, 1) := by decide +kernel
theorem dX8_cycles_14 : decode cX8_cycles 14 = .ok (.getfield 26, 3) := by decide +kernel
theorem dX8_cycles_17 : decode cX8_cycles 17 = .ok (.iload_n 1, 1) := by decide +kernel
theorem dX8_cycles_18 : decode cX8_cycles 18 = .ok (.invokevirtual 124, 3) := by decide +kernel
theorem dX8_cycles_21 : decode cX8_cycles 21 = .ok (.ifCond .eq 15, 3) := by decide +kernel
theorem dX8_cycles_24 : decode cX8_cycles 24 = .ok (.aload_n 0, 1) := by decide +kernel
theorem dX8_cycles_25 : decode cX8_cycles 25 = .ok (.getfield 51, 3) := by decide +kernel
theorem dX8_cycles_28 : decode cX8_cycles 28 = .ok (.getfield 179, 3) := by decide +kernel
theorem dX8_cycles_31 : decode cX8_cycles 31 = .ok (.iload_n 1, 1) := by decide +kernel
theorem dX8_cycles_32 : decode cX8_cycles 32 = .ok (.iaload, 1) := by decide +kernel
theorem dX8_cycles_33 : decode cX8_cycles 33 = .ok (.goto 4, 3) := by decide +kernel
theorem dX8_cycles_36 : decode cX8_cycles 36 = .ok (.iconst (-1), 1) := by decide +kernel
theorem dX8_cycles_37 : decode cX8_cycles 37 = .ok (.ireturn, 1) := by decide +kernel
abbrev rm_X8_cycles : Room := { frames := 1, cells := 0, slots := 0, locals := 21 }
theorem w_X8_cycles_e {X : gX} {σ : sg} {p1 : Int32} {r0 : Int32} (C : gC X cX8_cycles 2 RX8 (some .int) rm_X8_cycles)  (hQ : gQ X (qI (XG X) r0 σ)) (hf : f_X8_cycles σ p1 = some r0) : G X 2 σ 0 [(0, .ref (Xd X 0)), (1, .int p1)] [] := by
  unfold f_X8_cycles at hf
  refine g_aload_n C 0 dX8_cycles_0 rfl ?_
  refine g_getr C 8 5 (75) (by decide) sh_0 rfl vc_8 (by decide) inXX8 wfl_264 dX8_cycles_1 ?_
  refine g_getiN C 5 12 (by decide) sh_75 rfl vc_5 (by decide) inXX5 wfn_194 dX8_cycles_4 ?_
  refine g_if_ne C 13 hf dX8_cycles_7 (by decide) (fun hf => ?_) (fun hf => ?_)
  · refine g_bipush C (v := (-5)) dX8_cycles_10 rfl ?_
    have e0 : r0 = (-5 : Int32) := (Option.some.inj hf).symm
    exact g_iret C rfl hQ (by rw [e0]) rfl dX8_cycles_12
  · refine g_aload_n C 0 dX8_cycles_13 rfl ?_
    refine g_getr C 8 2 (57) (by decide) sh_0 rfl vc_8 (by decide) inXX8 wfl_261 dX8_cycles_14 ?_
    refine g_iload_n C 1 dX8_cycles_17 rfl ?_
    obtain ⟨v18, h1, hf⟩ := g_bind hf
    refine g_callVi C 1 [.int p1] (c_X1_has (Xl X) (gC_I C)  h1) ⟨wml_393, wim_394, wse_395, win_4, wcd_396⟩ (by decide) sh_57 vc_1 rfl hd_X1_has ⟨rfl, rfl⟩ ⟨Nat.le_of_ble_eq_true rfl, Nat.le_of_ble_eq_true rfl⟩ rfl rfl (Nat.le_of_ble_eq_true rfl) dX8_cycles_18 ?_
    clear h1
    refine g_if_eq C 36 hf dX8_cycles_21 (by decide) (fun hf => ?_) (fun hf => ?_)
    · refine g_iconst C (v := (-1)) dX8_cycles_36 rfl ?_
      have e0 : r0 = (-1 : Int32) := (Option.some.inj hf).symm
      exact g_iret C rfl hQ (by rw [e0]) rfl dX8_cycles_37
    · refine g_aload_n C 0 dX8_cycles_24 rfl ?_
      refine g_getr C 8 5 (75) (by decide) sh_0 rfl vc_8 (by decide) inXX8 wfl_264 dX8_cycles_25 ?_
      refine g_getrN C 5 7 (142) (by decide) sh_75 rfl vc_5 (by decide) inXX5 wfn_184 dX8_cycles_28 ?_
      refine g_iload_n C 1 dX8_cycles_31 rfl ?_
      obtain ⟨v32, h1, hf⟩ := g_bind hf
      refine g_iald C h1 dX8_cycles_32 ?_
      clear h1
      refine g_goto C 37 dX8_cycles_33 (by decide) ?_
      have e0 : r0 = v32 := (Option.some.inj hf).symm
      exact g_iret C rfl hQ (by rw [e0]) rfl dX8_cycles_37
theorem c_X8_cycles (l : Launch) {Gw : gW} (hI : g_I Gw) {σ : sg} {p1 : Int32} {r : Int32}  (hf : f_X8_cycles σ p1 = some r) : gM l Gw yX8_cycles cX8_cycles 2 (some .int) rm_X8_cycles [.ref (Gw.2.2 0), .int p1] σ (qI (Gw) r σ) := by
  refine g_met hI (by decide) (Nat.le_of_ble_eq_true rfl) (fun X h1 h2 C hQ => ?_)
  subst h1; subst h2
  exact w_X8_cycles_e C  hQ hf
theorem dX8_emptySlots_0 : decode cX8_emptySlots 0 = .ok (.aload_n 0, 1) := by decide +kernel
theorem dX8_emptySlots_1 : decode cX8_emptySlots 1 = .ok (.getfield 51, 3) := by decide +kernel
theorem dX8_emptySlots_4 : decode cX8_emptySlots 4 = .ok (.getfield 81, 3) := by decide +kernel
theorem dX8_emptySlots_7 : decode cX8_emptySlots 7 = .ok (.ifCond .eq 23, 3) := by decide +kernel
theorem dX8_emptySlots_10 : decode cX8_emptySlots 10 = .ok (.aload_n 0, 1) := by decide +kernel
theorem dX8_emptySlots_11 : decode cX8_emptySlots 11 = .ok (.getfield 51, 3) := by decide +kernel
theorem dX8_emptySlots_14 : decode cX8_emptySlots 14 = .ok (.getfield 160, 3) := by decide +kernel
theorem dX8_emptySlots_17 : decode cX8_emptySlots 17 = .ok (.iconst 3, 1) := by decide +kernel
theorem dX8_emptySlots_18 : decode cX8_emptySlots 18 = .ok (.imul, 1) := by decide +kernel
theorem dX8_emptySlots_19 : decode cX8_emptySlots 19 = .ok (.aload_n 0, 1) := by decide +kernel
theorem dX8_emptySlots_20 : decode cX8_emptySlots 20 = .ok (.getfield 10, 3) := by decide +kernel
theorem dX8_emptySlots_23 : decode cX8_emptySlots 23 = .ok (.getfield 85, 3) := by decide +kernel
theorem dX8_emptySlots_26 : decode cX8_emptySlots 26 = .ok (.isub, 1) := by decide +kernel
theorem dX8_emptySlots_27 : decode cX8_emptySlots 27 = .ok (.goto 5, 3) := by decide +kernel
theorem dX8_emptySlots_30 : decode cX8_emptySlots 30 = .ok (.bipush (-5), 2) := by decide +kernel
theorem dX8_emptySlots_32 : decode cX8_emptySlots 32 = .ok (.ireturn, 1) := by decide +kernel
abbrev rm_X8_emptySlots : Room := { frames := 0, cells := 0, slots := 0, locals := 0 }
theorem w_X8_emptySlots_e {X : gX} {σ : sg}  {r0 : Int32} (C : gC X cX8_emptySlots 1 RX8 (some .int) rm_X8_emptySlots)  (hQ : gQ X (qI (XG X) r0 σ)) (hf : f_X8_emptySlots σ = some r0) : G X 1 σ 0 [(0, .ref (Xd X 0))] [] := by
  unfold f_X8_emptySlots at hf
  refine g_aload_n C 0 dX8_emptySlots_0 rfl ?_
  refine g_getr C 8 5 (75) (by decide) sh_0 rfl vc_8 (by decide) inXX8 wfl_264 dX8_emptySlots_1 ?_
  refine g_getiN C 5 12 (by decide) sh_75 rfl vc_5 (by decide) inXX5 wfn_194 dX8_emptySlots_4 ?_
  refine g_if_eq C 30 hf dX8_emptySlots_7 (by decide) (fun hf => ?_) (fun hf => ?_)
  · refine g_bipush C (v := (-5)) dX8_emptySlots_30 rfl ?_
    have e0 : r0 = (-5 : Int32) := (Option.some.inj hf).symm
    exact g_iret C rfl hQ (by rw [e0]) rfl dX8_emptySlots_32
  · refine g_aload_n C 0 dX8_emptySlots_10 rfl ?_
    refine g_getr C 8 5 (75) (by decide) sh_0 rfl vc_8 (by decide) inXX8 wfl_264 dX8_emptySlots_11 ?_
    refine g_getiN C 5 11 (by decide) sh_75 rfl vc_5 (by decide) inXX5 wfn_192 dX8_emptySlots_14 ?_
    refine g_iconst C (v := 3) dX8_emptySlots_17 rfl ?_
    refine g_imul C dX8_emptySlots_18 ?_
    refine g_aload_n C 0 dX8_emptySlots_19 rfl ?_
    refine g_getr C 8 0 (1) (by decide) sh_0 rfl vc_8 (by decide) inXX8 wfl_259 dX8_emptySlots_20 ?_
    refine g_getiN C 6 1 (by decide) sh_1 rfl vc_6 (by decide) inXX6 wfn_35 dX8_emptySlots_23 ?_
    refine g_isub C dX8_emptySlots_26 ?_
    refine g_goto C 32 dX8_emptySlots_27 (by decide) ?_
    have e0 : r0 = ((σ 75 11) * (3 : Int32)) - (σ 1 1) := (Option.some.inj hf).symm
    exact g_iret C rfl hQ (by rw [e0]) rfl dX8_emptySlots_32
theorem c_X8_emptySlots (l : Launch) {Gw : gW} (hI : g_I Gw) {σ : sg}  {r : Int32}  (hf : f_X8_emptySlots σ = some r) : gM l Gw yX8_emptySlots cX8_emptySlots 1 (some .int) rm_X8_emptySlots [.ref (Gw.2.2 0)] σ (qI (Gw) r σ) := by
  refine g_met hI (by decide) (Nat.le_of_ble_eq_true rfl) (fun X h1 h2 C hQ => ?_)
  subst h1; subst h2
  exact w_X8_emptySlots_e C  hQ hf
theorem dX8_packsInto_0 : decode cX8_packsInto 0 = .ok (.aload_n 0, 1) := by decide +kernel
theorem dX8_packsInto_1 : decode cX8_packsInto 1 = .ok (.getfield 227, 3) := by decide +kernel
theorem dX8_packsInto_4 : decode cX8_packsInto 4 = .ok (.iload_n 2, 1) := by decide +kernel
theorem dX8_packsInto_5 : decode cX8_packsInto 5 = .ok (.isub, 1) := by decide +kernel
theorem dX8_packsInto_6 : decode cX8_packsInto 6 = .ok (.istore 4, 2) := by decide +kernel
theorem dX8_packsInto_8 : decode cX8_packsInto 8 = .ok (.iload 4, 2) := by decide +kernel
theorem dX8_packsInto_10 : decode cX8_packsInto 10 = .ok (.ifCond .gt 5, 3) := by decide +kernel
theorem dX8_packsInto_13 : decode cX8_packsInto 13 = .ok (.iconst 1, 1) := by decide +kernel
theorem dX8_packsInto_14 : decode cX8_packsInto 14 = .ok (.ireturn, 1) := by decide +kernel
theorem dX8_packsInto_15 : decode cX8_packsInto 15 = .ok (.iload 4, 2) := by decide +kernel
theorem dX8_packsInto_17 : decode cX8_packsInto 17 = .ok (.iload_n 1, 1) := by decide +kernel
theorem dX8_packsInto_18 : decode cX8_packsInto 18 = .ok (.iconst 3, 1) := by decide +kernel
theorem dX8_packsInto_19 : decode cX8_packsInto 19 = .ok (.imul, 1) := by decide +kernel
theorem dX8_packsInto_20 : decode cX8_packsInto 20 = .ok (.if_icmp .le 5, 3) := by decide +kernel
theorem dX8_packsInto_23 : decode cX8_packsInto 23 = .ok (.iconst 0, 1) := by decide +kernel
theorem dX8_packsInto_24 : decode cX8_packsInto 24 = .ok (.ireturn, 1) := by decide +kernel
theorem dX8_packsInto_25 : decode cX8_packsInto 25 = .ok (.iconst 0, 1) := by decide +kernel
theorem dX8_packsInto_26 : decode cX8_packsInto 26 = .ok (.istore 5, 2) := by decide +kernel
theorem dX8_packsInto_28 : decode cX8_packsInto 28 = .ok (.iload 5, 2) := by decide +kernel
theorem dX8_packsInto_30 : decode cX8_packsInto 30 = .ok (.aload_n 0, 1) := by decide +kernel
theorem dX8_packsInto_31 : decode cX8_packsInto 31 = .ok (.getfield 230, 3) := by decide +kernel
theorem dX8_packsInto_34 : decode cX8_packsInto 34 = .ok (.getfield 135, 3) := by decide +kernel
theorem dX8_packsInto_37 : decode cX8_packsInto 37 = .ok (.if_icmp .ge 37, 3) := by decide +kernel
theorem dX8_packsInto_40 : decode cX8_packsInto 40 = .ok (.aload_n 0, 1) := by decide +kernel
theorem dX8_packsInto_41 : decode cX8_packsInto 41 = .ok (.iload 5, 2) := by decide +kernel
theorem dX8_packsInto_43 : decode cX8_packsInto 43 = .ok (.iload_n 2, 1) := by decide +kernel
theorem dX8_packsInto_44 : decode cX8_packsInto 44 = .ok (.iload_n 3, 1) := by decide +kernel
theorem dX8_packsInto_45 : decode cX8_packsInto 45 = .ok (.invokevirtual 231, 3) := by decide +kernel
theorem dX8_packsInto_48 : decode cX8_packsInto 48 = .ok (.aload_n 0, 1) := by decide +kernel
theorem dX8_packsInto_49 : decode cX8_packsInto 49 = .ok (.iload_n 1, 1) := by decide +kernel
theorem dX8_packsInto_50 : decode cX8_packsInto 50 = .ok (.iconst 1, 1) := by decide +kernel
theorem dX8_packsInto_51 : decode cX8_packsInto 51 = .ok (.isub, 1) := by decide +kernel
theorem dX8_packsInto_52 : decode cX8_packsInto 52 = .ok (.aload_n 0, 1) := by decide +kernel
theorem dX8_packsInto_53 : decode cX8_packsInto 53 = .ok (.getfield 235, 3) := by decide +kernel
theorem dX8_packsInto_56 : decode cX8_packsInto 56 = .ok (.aload_n 0, 1) := by decide +kernel
theorem dX8_packsInto_57 : decode cX8_packsInto 57 = .ok (.getfield 238, 3) := by decide +kernel
theorem dX8_packsInto_60 : decode cX8_packsInto 60 = .ok (.invokestatic 182, 3) := by decide +kernel
theorem dX8_packsInto_63 : decode cX8_packsInto 63 = .ok (.ifCond .eq 5, 3) := by decide +kernel
theorem dX8_packsInto_66 : decode cX8_packsInto 66 = .ok (.iconst 1, 1) := by decide +kernel
theorem dX8_packsInto_67 : decode cX8_packsInto 67 = .ok (.ireturn, 1) := by decide +kernel
theorem dX8_packsInto_68 : decode cX8_packsInto 68 = .ok (.iinc 5 1, 3) := by decide +kernel
theorem dX8_packsInto_71 : decode cX8_packsInto 71 = .ok (.goto (-43), 3) := by decide +kernel
theorem dX8_packsInto_74 : decode cX8_packsInto 74 = .ok (.iconst 0, 1) := by decide +kernel
theorem dX8_packsInto_75 : decode cX8_packsInto 75 = .ok (.ireturn, 1) := by decide +kernel
abbrev rm_X8_packsInto (d : Nat) : Room := { frames := 4 + d, cells := 0, slots := 0, locals := 131 + d * 25 }
theorem w_X8_packsInto_28 {X : gX} {d : Nat} {rec : sg → Int32 → Int32 → Int32 → Option (Int32 × sg)} {p1 : Int32} {p2 : Int32} {p3 : Int32} {x5 : Int32} {σ : sg} {r0 : (Int32 × sg)} {r1 : ((Int32 × sg) ⊕ (Int32 × sg))} (C : gC X cX8_packsInto 6 RX8 (some .boolean) (rm_X8_packsInto (d + 1)))  (hrec : ∀ (τ : sg) (p1 : Int32) (p2 : Int32) (p3 : Int32) (r : (Int32 × sg)), rec τ p1 p2 p3 = some r → gM (Xl X) (XG X) yX8_packsInto cX8_packsInto 6 (some .boolean) (rm_X8_packsInto d) [.ref (Xd X 72), .int p1, .int p2, .int p3] τ (qI (XG X) r.1 r.2)) (hQ : gQ X (qI (XG X) r0.1 r0.2)) (A1 : ∀ b, r1 = .inl b → G X 6 b.2 28 [(0, .ref (Xd X 72)), (1, .int p1), (2, .int p2), (3, .int p3), (5, .int b.1)] []) (B1 : ∀ b, r1 = .inr b → b = r0) (hf : B_X8_packsInto_28 rec p1 p2 p3 x5 σ = some r1) : G X 6 σ 28 [(0, .ref (Xd X 72)), (1, .int p1), (2, .int p2), (3, .int p3), (5, .int x5)] [] := by
  unfold B_X8_packsInto_28 at hf
  refine g_iload C 4 dX8_packsInto_28 rfl ?_
  refine g_aload_n C 0 dX8_packsInto_30 rfl ?_
  refine g_getrN C 2 1 (61) (by decide) sh_72 rfl vc_2 (by decide) inXX2 wfn_128 dX8_packsInto_31 ?_
  refine g_getiN C 7 2 (by decide) sh_61 rfl vc_7 (by decide) inXX7 wfn_112 dX8_packsInto_34 ?_
  refine g_icmp_ge C 74 hf dX8_packsInto_37 (by decide) (fun hf => ?_) (fun hf => ?_)
  · refine g_iconst C (v := 0) dX8_packsInto_74 rfl ?_
    have e0 : r0 = ((0 : Int32), σ) := (B1 _ (Option.some.inj hf).symm).symm
    exact g_iret C rfl hQ (by rw [e0]) rfl dX8_packsInto_75
  · refine g_aload_n C 0 dX8_packsInto_40 rfl ?_
    refine g_iload C 4 dX8_packsInto_41 rfl ?_
    refine g_iload_n C 2 dX8_packsInto_43 rfl ?_
    refine g_iload_n C 3 dX8_packsInto_44 rfl ?_
    obtain ⟨s45, h1, hf⟩ := g_bind hf
    refine g_callVv C 3 [.int x5, .int p2, .int p3] (c_X2_fill (Xl X) (gC_I C)  h1) ⟨wml_552, wim_464, wse_465, win_6, wcd_466⟩ (by decide) sh_72 vc_2 rfl hd_X2_fill ⟨rfl, rfl⟩ (by refine ⟨?_, ?_⟩ <;> simp only [rm_X8_packsInto, rm_X2_fill] <;> omega) rfl rfl (Nat.le_of_ble_eq_true rfl) dX8_packsInto_45 ?_
    clear h1
    refine g_aload_n C 0 dX8_packsInto_48 rfl ?_
    refine g_iload_n C 1 dX8_packsInto_49 rfl ?_
    refine g_iconst C (v := 1) dX8_packsInto_50 rfl ?_
    refine g_isub C dX8_packsInto_51 ?_
    refine g_aload_n C 0 dX8_packsInto_52 rfl ?_
    refine g_getiN C 2 6 (by decide) sh_72 rfl vc_2 (by decide) inXX2 wfn_140 dX8_packsInto_53 ?_
    refine g_aload_n C 0 dX8_packsInto_56 rfl ?_
    refine g_getiN C 2 7 (by decide) sh_72 rfl vc_2 (by decide) inXX2 wfn_143 dX8_packsInto_57 ?_
    obtain ⟨q60, h1, hf⟩ := g_bind hf
    refine g_callSi C 4 [.ref (Xd X 72), .int (p1 - (1 : Int32)), .int (s45 72 6), .int (s45 72 7)] (hrec _ _ _ _ _ h1) ⟨wml_549, wst_550, win_1, wcd_551⟩ hd_X8_packsInto ⟨rfl, rfl⟩ (by refine ⟨?_, ?_⟩ <;> simp only [rm_X8_packsInto, rm_X8_packsInto] <;> omega) rfl rfl (Nat.le_of_ble_eq_true rfl) dX8_packsInto_60 ?_
    clear h1
    refine g_if_eq C 68 hf dX8_packsInto_63 (by decide) (fun hf => ?_) (fun hf => ?_)
    · refine g_iinc C (v := x5 + (1 : Int32)) (lv' := [(5, .int (x5 + (1 : Int32))), (0, .ref (Xd X 72)), (1, .int p1), (2, .int p2), (3, .int p3)]) 4 dX8_packsInto_68 rfl rfl (by decide) rfl ?_
      refine g_goto C 28 dX8_packsInto_71 (by decide) ?_
      refine g_sub [1, 2, 3, 4, 0] rfl ?_
      exact A1 (x5 + (1 : Int32), q60.2) (Option.some.inj hf).symm
    · refine g_iconst C (v := 1) dX8_packsInto_66 rfl ?_
      have e0 : r0 = ((1 : Int32), q60.2) := (B1 _ (Option.some.inj hf).symm).symm
      exact g_iret C rfl hQ (by rw [e0]) rfl dX8_packsInto_67
theorem wl_X8_packsInto_28 {X : gX} {d : Nat} {rec : sg → Int32 → Int32 → Int32 → Option (Int32 × sg)} {p1 : Int32} {p2 : Int32} {p3 : Int32} {r0 : (Int32 × sg)} (C : gC X cX8_packsInto 6 RX8 (some .boolean) (rm_X8_packsInto (d + 1)))  (hrec : ∀ (τ : sg) (p1 : Int32) (p2 : Int32) (p3 : Int32) (r : (Int32 × sg)), rec τ p1 p2 p3 = some r → gM (Xl X) (XG X) yX8_packsInto cX8_packsInto 6 (some .boolean) (rm_X8_packsInto d) [.ref (Xd X 72), .int p1, .int p2, .int p3] τ (qI (XG X) r.1 r.2)) (hQ : gQ X (qI (XG X) r0.1 r0.2))  {n : Nat} {a : (Int32 × sg)} (hf : L_X8_packsInto_28 rec p1 p2 p3 n a = some r0) : G X 6 a.2 28 [(0, .ref (Xd X 72)), (1, .int p1), (2, .int p2), (3, .int p3), (5, .int a.1)] [] := by
  unfold L_X8_packsInto_28 at hf
  have key := g_loop_ind (res := r0) (f := fun a => B_X8_packsInto_28 rec p1 p2 p3 a.1 a.2) (P := fun a => G X 6 a.2 28 [(0, .ref (Xd X 72)), (1, .int p1), (2, .int p2), (3, .int p3), (5, .int a.1)] []) (fun a r1 h1 k1 k2 => w_X8_packsInto_28 (x5 := a.1) (σ := a.2) C  hrec hQ  k1 k2 h1)
  exact key n a hf
theorem w_X8_packsInto_e {X : gX} {d : Nat} {rec : sg → Int32 → Int32 → Int32 → Option (Int32 × sg)} {σ : sg} {p1 : Int32} {p2 : Int32} {p3 : Int32} {r0 : (Int32 × sg)} (C : gC X cX8_packsInto 6 RX8 (some .boolean) (rm_X8_packsInto (d + 1)))  (hrec : ∀ (τ : sg) (p1 : Int32) (p2 : Int32) (p3 : Int32) (r : (Int32 × sg)), rec τ p1 p2 p3 = some r → gM (Xl X) (XG X) yX8_packsInto cX8_packsInto 6 (some .boolean) (rm_X8_packsInto d) [.ref (Xd X 72), .int p1, .int p2, .int p3] τ (qI (XG X) r.1 r.2)) (hQ : gQ X (qI (XG X) r0.1 r0.2)) (hf : E_X8_packsInto rec σ p1 p2 p3 = some r0) : G X 6 σ 0 [(0, .ref (Xd X 72)), (1, .int p1), (2, .int p2), (3, .int p3)] [] := by
  unfold E_X8_packsInto at hf
  refine g_aload_n C 0 dX8_packsInto_0 rfl ?_
  refine g_getiN C 2 5 (by decide) sh_72 rfl vc_2 (by decide) inXX2 wfn_137 dX8_packsInto_1 ?_
  refine g_iload_n C 2 dX8_packsInto_4 rfl ?_
  refine g_isub C dX8_packsInto_5 ?_
  refine g_istore C (lv' := [(4, .int ((σ 72 5) - p2)), (0, .ref (Xd X 72)), (1, .int p1), (2, .int p2), (3, .int p3)]) dX8_packsInto_6 (by decide) rfl ?_
  refine g_iload C 0 dX8_packsInto_8 rfl ?_
  refine g_if_gt C 15 hf dX8_packsInto_10 (by decide) (fun hf => ?_) (fun hf => ?_)
  · refine g_iload C 0 dX8_packsInto_15 rfl ?_
    refine g_iload_n C 2 dX8_packsInto_17 rfl ?_
    refine g_iconst C (v := 3) dX8_packsInto_18 rfl ?_
    refine g_imul C dX8_packsInto_19 ?_
    refine g_icmp_le C 25 hf dX8_packsInto_20 (by decide) (fun hf => ?_) (fun hf => ?_)
    · refine g_iconst C (v := 0) dX8_packsInto_25 rfl ?_
      refine g_istore C (lv' := [(5, .int (0 : Int32)), (4, .int ((σ 72 5) - p2)), (0, .ref (Xd X 72)), (1, .int p1), (2, .int p2), (3, .int p3)]) dX8_packsInto_26 (by decide) rfl ?_
      refine g_sub [2, 3, 4, 5, 0] rfl ?_
      exact wl_X8_packsInto_28 (a := ((0 : Int32), σ)) C  hrec hQ  hf
    · refine g_iconst C (v := 0) dX8_packsInto_23 rfl ?_
      have e0 : r0 = ((0 : Int32), σ) := (Option.some.inj hf).symm
      exact g_iret C rfl hQ (by rw [e0]) rfl dX8_packsInto_24
  · refine g_iconst C (v := 1) dX8_packsInto_13 rfl ?_
    have e0 : r0 = ((1 : Int32), σ) := (Option.some.inj hf).symm
    exact g_iret C rfl hQ (by rw [e0]) rfl dX8_packsInto_14
theorem c_X8_packsInto (l : Launch) {Gw : gW} (hI : g_I Gw) : ∀ (d : Nat) (σ : sg) (p1 : Int32) (p2 : Int32) (p3 : Int32) (r : (Int32 × sg)), f_X8_packsInto d σ p1 p2 p3 = some r → gM l Gw yX8_packsInto cX8_packsInto 6 (some .boolean) (rm_X8_packsInto d) [.ref (Gw.2.2 72), .int p1, .int p2, .int p3] σ (qI (Gw) r.1 r.2) := by
  intro d
  induction d with
  | zero => intro σ p1 p2 p3 r hf; cases hf
  | succ d ih =>
    intro σ p1 p2 p3 r hf
    refine g_met hI (by decide) (Nat.le_of_ble_eq_true rfl) (fun X h1 h2 C hQ => ?_)
    subst h1; subst h2
    exact w_X8_packsInto_e (rec := f_X8_packsInto d) C ih hQ hf
theorem dX8_least_0 : decode cX8_least 0 = .ok (.aload_n 0, 1) := by decide +kernel
theorem dX8_least_1 : decode cX8_least 1 = .ok (.getfield 26, 3) := by decide +kernel
theorem dX8_least_4 : decode cX8_least 4 = .ok (.getfield 116, 3) := by decide +kernel
theorem dX8_least_7 : decode cX8_least 7 = .ok (.ifCond .ne 6, 3) := by decide +kernel
theorem dX8_least_10 : decode cX8_least 10 = .ok (.bipush (-6), 2) := by decide +kernel
theorem dX8_least_12 : decode cX8_least 12 = .ok (.ireturn, 1) := by decide +kernel
theorem dX8_least_13 : decode cX8_least 13 = .ok (.aload_n 0, 1) := by decide +kernel
theorem dX8_least_14 : decode cX8_least 14 = .ok (.getfield 26, 3) := by decide +kernel
theorem dX8_least_17 : decode cX8_least 17 = .ok (.iload_n 1, 1) := by decide +kernel
theorem dX8_least_18 : decode cX8_least 18 = .ok (.invokevirtual 124, 3) := by decide +kernel
theorem dX8_least_21 : decode cX8_least 21 = .ok (.ifCond .ne 5, 3) := by decide +kernel
theorem dX8_least_24 : decode cX8_least 24 = .ok (.iconst (-1), 1) := by decide +kernel
theorem dX8_least_25 : decode cX8_least 25 = .ok (.ireturn, 1) := by decide +kernel
theorem dX8_least_26 : decode cX8_least 26 = .ok (.iload_n 2, 1) := by decide +kernel
theorem dX8_least_27 : decode cX8_least 27 = .ok (.ifCond .lt 8, 3) := by decide +kernel
theorem dX8_least_30 : decode cX8_least 30 = .ok (.iload_n 2, 1) := by decide +kernel
theorem dX8_least_31 : decode cX8_least 31 = .ok (.iconst 4, 1) := by decide +kernel
theorem dX8_least_32 : decode cX8_least 32 = .ok (.if_icmp .le 6, 3) := by decide +kernel
theorem dX8_least_35 : decode cX8_least 35 = .ok (.bipush (-2), 2) := by decide +kernel
theorem dX8_least_37 : decode cX8_least 37 = .ok (.ireturn, 1) := by decide +kernel
theorem dX8_least_38 : decode cX8_least 38 = .ok (.aload_n 0, 1) := by decide +kernel
theorem dX8_least_39 : decode cX8_least 39 = .ok (.getfield 26, 3) := by decide +kernel
theorem dX8_least_42 : decode cX8_least 42 = .ok (.getfield 125, 3) := by decide +kernel
theorem dX8_least_45 : decode cX8_least 45 = .ok (.iload_n 1, 1) := by decide +kernel
theorem dX8_least_46 : decode cX8_least 46 = .ok (.iaload, 1) := by decide +kernel
theorem dX8_least_47 : decode cX8_least 47 = .ok (.istore_n 3, 1) := by decide +kernel
theorem dX8_least_48 : decode cX8_least 48 = .ok (.aload_n 0, 1) := by decide +kernel
theorem dX8_least_49 : decode cX8_least 49 = .ok (.getfield 42, 3) := by decide +kernel
theorem dX8_least_52 : decode cX8_least 52 = .ok (.iload_n 3, 1) := by decide +kernel
theorem dX8_least_53 : decode cX8_least 53 = .ok (.aload_n 0, 1) := by decide +kernel
theorem dX8_least_54 : decode cX8_least 54 = .ok (.getfield 26, 3) := by decide +kernel
theorem dX8_least_57 : decode cX8_least 57 = .ok (.getfield 125, 3) := by decide +kernel
theorem dX8_least_60 : decode cX8_least 60 = .ok (.iload_n 1, 1) := by decide +kernel
theorem dX8_least_61 : decode cX8_least 61 = .ok (.iconst 1, 1) := by decide +kernel
theorem dX8_least_62 : decode cX8_least 62 = .ok (.iadd, 1) := by decide +kernel
theorem dX8_least_63 : decode cX8_least 63 = .ok (.iaload, 1) := by decide +kernel
theorem dX8_least_64 : decode cX8_least 64 = .ok (.invokevirtual 149, 3) := by decide +kernel
theorem dX8_least_67 : decode cX8_least 67 = .ok (.iconst 1, 1) := by decide +kernel
theorem dX8_least_68 : decode cX8_least 68 = .ok (.istore 4, 2) := by decide +kernel
theorem dX8_least_70 : decode cX8_least 70 = .ok (.iload 4, 2) := by decide +kernel
theorem dX8_least_72 : decode cX8_least 72 = .ok (.iload_n 2, 1) := by decide +kernel
theorem dX8_least_73 : decode cX8_least 73 = .ok (.if_icmp .gt 26, 3) := by decide +kernel
theorem dX8_least_76 : decode cX8_least 76 = .ok (.aload_n 0, 1) := by decide +kernel
theorem dX8_least_77 : decode cX8_least 77 = .ok (.getfield 42, 3) := by decide +kernel
theorem dX8_least_80 : decode cX8_least 80 = .ok (.iload 4, 2) := by decide +kernel
theorem dX8_least_82 : decode cX8_least 82 = .ok (.iload_n 3, 1) := by decide +kernel
theorem dX8_least_83 : decode cX8_least 83 = .ok (.iconst 0, 1) := by decide +kernel
theorem dX8_least_84 : decode cX8_least 84 = .ok (.invokestatic 182, 3) := by decide +kernel
theorem dX8_least_87 : decode cX8_least 87 = .ok (.ifCond .eq 6, 3) := by decide +kernel
theorem dX8_least_90 : decode cX8_least 90 = .ok (.iload 4, 2) := by decide +kernel
theorem dX8_least_92 : decode cX8_least 92 = .ok (.ireturn, 1) := by decide +kernel
theorem dX8_least_93 : decode cX8_least 93 = .ok (.iinc 4 1, 3) := by decide +kernel
theorem dX8_least_96 : decode cX8_least 96 = .ok (.goto (-26), 3) := by decide +kernel
theorem dX8_least_99 : decode cX8_least 99 = .ok (.bipush (-4), 2) := by decide +kernel
theorem dX8_least_101 : decode cX8_least 101 = .ok (.ireturn, 1) := by decide +kernel
abbrev rm_X8_least : Room := { frames := 13, cells := 0, slots := 0, locals := 356 }
theorem w_X8_least_70 {X : gX} {p2 : Int32} {x3 : Int32} {x4 : Int32} {σ : sg} {r0 : (Int32 × sg)} {r1 : ((Int32 × sg) ⊕ (Int32 × sg))} (C : gC X cX8_least 5 RX8 (some .int) rm_X8_least)  (hQ : gQ X (qI (XG X) r0.1 r0.2)) (A1 : ∀ b, r1 = .inl b → G X 5 b.2 70 [(0, .ref (Xd X 0)), (2, .int p2), (3, .int x3), (4, .int b.1)] []) (B1 : ∀ b, r1 = .inr b → b = r0) (hf : B_X8_least_70 p2 x3 x4 σ = some r1) : G X 5 σ 70 [(0, .ref (Xd X 0)), (2, .int p2), (3, .int x3), (4, .int x4)] [] := by
  unfold B_X8_least_70 at hf
  refine g_iload C 3 dX8_least_70 rfl ?_
  refine g_iload_n C 1 dX8_least_72 rfl ?_
  refine g_icmp_gt C 99 hf dX8_least_73 (by decide) (fun hf => ?_) (fun hf => ?_)
  · refine g_bipush C (v := (-4)) dX8_least_99 rfl ?_
    have e0 : r0 = ((-4 : Int32), σ) := (B1 _ (Option.some.inj hf).symm).symm
    exact g_iret C rfl hQ (by rw [e0]) rfl dX8_least_101
  · refine g_aload_n C 0 dX8_least_76 rfl ?_
    refine g_getr C 8 4 (72) (by decide) sh_0 rfl vc_8 (by decide) inXX8 wfl_263 dX8_least_77 ?_
    refine g_iload C 3 dX8_least_80 rfl ?_
    refine g_iload_n C 2 dX8_least_82 rfl ?_
    refine g_iconst C (v := 0) dX8_least_83 rfl ?_
    obtain ⟨q84, h1, hf⟩ := g_bind hf
    refine g_callSi C 4 [.ref (Xd X 72), .int x4, .int x3, .int (0 : Int32)] (c_X8_packsInto (Xl X) (gC_I C) 8 _ _ _ _ _ h1) ⟨wml_549, wst_550, win_1, wcd_551⟩ hd_X8_packsInto ⟨rfl, rfl⟩ ⟨Nat.le_of_ble_eq_true rfl, Nat.le_of_ble_eq_true rfl⟩ rfl rfl (Nat.le_of_ble_eq_true rfl) dX8_least_84 ?_
    clear h1
    refine g_if_eq C 93 hf dX8_least_87 (by decide) (fun hf => ?_) (fun hf => ?_)
    · refine g_iinc C (v := x4 + (1 : Int32)) (lv' := [(4, .int (x4 + (1 : Int32))), (0, .ref (Xd X 0)), (2, .int p2), (3, .int x3)]) 3 dX8_least_93 rfl rfl (by decide) rfl ?_
      refine g_goto C 70 dX8_least_96 (by decide) ?_
      refine g_sub [1, 2, 3, 0] rfl ?_
      exact A1 (x4 + (1 : Int32), q84.2) (Option.some.inj hf).symm
    · refine g_iload C 3 dX8_least_90 rfl ?_
      have e0 : r0 = (x4, q84.2) := (B1 _ (Option.some.inj hf).symm).symm
      exact g_iret C rfl hQ (by rw [e0]) rfl dX8_least_92
theorem wl_X8_least_70 {X : gX} {p2 : Int32} {x3 : Int32} {r0 : (Int32 × sg)} (C : gC X cX8_least 5 RX8 (some .int) rm_X8_least)  (hQ : gQ X (qI (XG X) r0.1 r0.2))  {n : Nat} {a : (Int32 × sg)} (hf : L_X8_least_70 p2 x3 n a = some r0) : G X 5 a.2 70 [(0, .ref (Xd X 0)), (2, .int p2), (3, .int x3), (4, .int a.1)] [] := by
  unfold L_X8_least_70 at hf
  have key := g_loop_ind (res := r0) (f := fun a => B_X8_least_70 p2 x3 a.1 a.2) (P := fun a => G X 5 a.2 70 [(0, .ref (Xd X 0)), (2, .int p2), (3, .int x3), (4, .int a.1)] []) (fun a r1 h1 k1 k2 => w_X8_least_70 (x4 := a.1) (σ := a.2) C  hQ  k1 k2 h1)
  exact key n a hf
theorem w_X8_least_e {X : gX} {σ : sg} {p1 : Int32} {p2 : Int32} {r0 : (Int32 × sg)} (C : gC X cX8_least 5 RX8 (some .int) rm_X8_least)  (hQ : gQ X (qI (XG X) r0.1 r0.2)) (hf : f_X8_least σ p1 p2 = some r0) : G X 5 σ 0 [(0, .ref (Xd X 0)), (1, .int p1), (2, .int p2)] [] := by
  unfold f_X8_least at hf
  refine g_aload_n C 0 dX8_least_0 rfl ?_
  refine g_getr C 8 2 (57) (by decide) sh_0 rfl vc_8 (by decide) inXX8 wfl_261 dX8_least_1 ?_
  refine g_getiN C 1 4 (by decide) sh_57 rfl vc_1 (by decide) inXX1 wfn_85 dX8_least_4 ?_
  refine g_if_ne C 13 hf dX8_least_7 (by decide) (fun hf => ?_) (fun hf => ?_)
  · refine g_bipush C (v := (-6)) dX8_least_10 rfl ?_
    have e0 : r0 = ((-6 : Int32), σ) := (Option.some.inj hf).symm
    exact g_iret C rfl hQ (by rw [e0]) rfl dX8_least_12
  · refine g_aload_n C 0 dX8_least_13 rfl ?_
    refine g_getr C 8 2 (57) (by decide) sh_0 rfl vc_8 (by decide) inXX8 wfl_261 dX8_least_14 ?_
    refine g_iload_n C 1 dX8_least_17 rfl ?_
    obtain ⟨v18, h1, hf⟩ := g_bind hf
    refine g_callVi C 1 [.int p1] (c_X1_has (Xl X) (gC_I C)  h1) ⟨wml_393, wim_394, wse_395, win_4, wcd_396⟩ (by decide) sh_57 vc_1 rfl hd_X1_has ⟨rfl, rfl⟩ ⟨Nat.le_of_ble_eq_true rfl, Nat.le_of_ble_eq_true rfl⟩ rfl rfl (Nat.le_of_ble_eq_true rfl) dX8_least_18 ?_
    clear h1
    refine g_if_ne C 26 hf dX8_least_21 (by decide) (fun hf => ?_) (fun hf => ?_)
    · refine g_iconst C (v := (-1)) dX8_least_24 rfl ?_
      have e0 : r0 = ((-1 : Int32), σ) := (Option.some.inj hf).symm
      exact g_iret C rfl hQ (by rw [e0]) rfl dX8_least_25
    · refine g_iload_n C 2 dX8_least_26 rfl ?_
      refine g_if_lt C 35 hf dX8_least_27 (by decide) (fun hf => ?_) (fun hf => ?_)
      · refine g_bipush C (v := (-2)) dX8_least_35 rfl ?_
        have e0 : r0 = ((-2 : Int32), σ) := (Option.some.inj hf).symm
        exact g_iret C rfl hQ (by rw [e0]) rfl dX8_least_37
      · refine g_iload_n C 2 dX8_least_30 rfl ?_
        refine g_iconst C (v := 4) dX8_least_31 rfl ?_
        refine g_icmp_le C 38 hf dX8_least_32 (by decide) (fun hf => ?_) (fun hf => ?_)
        · refine g_aload_n C 0 dX8_least_38 rfl ?_
          refine g_getr C 8 2 (57) (by decide) sh_0 rfl vc_8 (by decide) inXX8 wfl_261 dX8_least_39 ?_
          refine g_getrN C 1 0 (58) (by decide) sh_57 rfl vc_1 (by decide) inXX1 wfn_76 dX8_least_42 ?_
          refine g_iload_n C 1 dX8_least_45 rfl ?_
          obtain ⟨v46, h1, hf⟩ := g_bind hf
          refine g_iald C h1 dX8_least_46 ?_
          clear h1
          refine g_istore_n C (lv' := [(3, .int v46), (0, .ref (Xd X 0)), (1, .int p1), (2, .int p2)]) dX8_least_47 (by decide) rfl ?_
          refine g_aload_n C 1 dX8_least_48 rfl ?_
          refine g_getr C 8 4 (72) (by decide) sh_0 rfl vc_8 (by decide) inXX8 wfl_263 dX8_least_49 ?_
          refine g_iload_n C 0 dX8_least_52 rfl ?_
          refine g_aload_n C 1 dX8_least_53 rfl ?_
          refine g_getr C 8 2 (57) (by decide) sh_0 rfl vc_8 (by decide) inXX8 wfl_261 dX8_least_54 ?_
          refine g_getrN C 1 0 (58) (by decide) sh_57 rfl vc_1 (by decide) inXX1 wfn_76 dX8_least_57 ?_
          refine g_iload_n C 2 dX8_least_60 rfl ?_
          refine g_iconst C (v := 1) dX8_least_61 rfl ?_
          refine g_iadd C dX8_least_62 ?_
          obtain ⟨v63, h1, hf⟩ := g_bind hf
          refine g_iald C h1 dX8_least_63 ?_
          clear h1
          obtain ⟨s64, h1, hf⟩ := g_bind hf
          refine g_callVv C 2 [.int v46, .int v63] (c_X2_enter (Xl X) (gC_I C)  h1) ⟨wml_451, wim_452, wse_453, win_6, wcd_454⟩ (by decide) sh_72 vc_2 rfl hd_X2_enter ⟨rfl, rfl⟩ ⟨Nat.le_of_ble_eq_true rfl, Nat.le_of_ble_eq_true rfl⟩ rfl rfl (Nat.le_of_ble_eq_true rfl) dX8_least_64 ?_
          clear h1
          refine g_iconst C (v := 1) dX8_least_67 rfl ?_
          refine g_istore C (lv' := [(4, .int (1 : Int32)), (3, .int v46), (0, .ref (Xd X 0)), (1, .int p1), (2, .int p2)]) dX8_least_68 (by decide) rfl ?_
          refine g_sub [2, 4, 1, 0] rfl ?_
          exact wl_X8_least_70 (a := ((1 : Int32), s64)) C  hQ  hf
        · refine g_bipush C (v := (-2)) dX8_least_35 rfl ?_
          have e0 : r0 = ((-2 : Int32), σ) := (Option.some.inj hf).symm
          exact g_iret C rfl hQ (by rw [e0]) rfl dX8_least_37
theorem c_X8_least (l : Launch) {Gw : gW} (hI : g_I Gw) {σ : sg} {p1 : Int32} {p2 : Int32} {r : (Int32 × sg)}  (hf : f_X8_least σ p1 p2 = some r) : gM l Gw yX8_least cX8_least 5 (some .int) rm_X8_least [.ref (Gw.2.2 0), .int p1, .int p2] σ (qI (Gw) r.1 r.2) := by
  refine g_met hI (by decide) (Nat.le_of_ble_eq_true rfl) (fun X h1 h2 C hQ => ?_)
  subst h1; subst h2
  exact w_X8_least_e C  hQ hf
theorem dX8_codeLength_0 : decode cX8_codeLength 0 = .ok (.aload_n 0, 1) := by decide +kernel
theorem dX8_codeLength_1 : decode cX8_codeLength 1 = .ok (.getfield 51, 3) := by decide +kernel
theorem dX8_codeLength_4 : decode cX8_codeLength 4 = .ok (.getfield 81, 3) := by decide +kernel
theorem dX8_codeLength_7 : decode cX8_codeLength 7 = .ok (.ifCond .eq 13, 3) := by decide +kernel
theorem dX8_codeLength_10 : decode cX8_codeLength 10 = .ok (.aload_n 0, 1) := by decide +kernel
theorem dX8_codeLength_11 : decode cX8_codeLength 11 = .ok (.getfield 51, 3) := by decide +kernel
theorem dX8_codeLength_14 : decode cX8_codeLength 14 = .ok (.getfield 186, 3) := by decide +kernel
theorem dX8_codeLength_17 : decode cX8_codeLength 17 = .ok (.goto 5, 3) := by decide +kernel
theorem dX8_codeLength_20 : decode cX8_codeLength 20 = .ok (.bipush (-5), 2) := by decide +kernel
theorem dX8_codeLength_22 : decode cX8_codeLength 22 = .ok (.ireturn, 1) := by decide +kernel
abbrev rm_X8_codeLength : Room := { frames := 0, cells := 0, slots := 0, locals := 0 }
theorem w_X8_codeLength_e {X : gX} {σ : sg}  {r0 : Int32} (C : gC X cX8_codeLength 1 RX8 (some .int) rm_X8_codeLength)  (hQ : gQ X (qI (XG X) r0 σ)) (hf : f_X8_codeLength σ = some r0) : G X 1 σ 0 [(0, .ref (Xd X 0))] [] := by
  unfold f_X8_codeLength at hf
  refine g_aload_n C 0 dX8_codeLength_0 rfl ?_
  refine g_getr C 8 5 (75) (by decide) sh_0 rfl vc_8 (by decide) inXX8 wfl_264 dX8_codeLength_1 ?_
  refine g_getiN C 5 12 (by decide) sh_75 rfl vc_5 (by decide) inXX5 wfn_194 dX8_codeLength_4 ?_
  refine g_if_eq C 20 hf dX8_codeLength_7 (by decide) (fun hf => ?_) (fun hf => ?_)
  · refine g_bipush C (v := (-5)) dX8_codeLength_20 rfl ?_
    have e0 : r0 = (-5 : Int32) := (Option.some.inj hf).symm
    exact g_iret C rfl hQ (by rw [e0]) rfl dX8_codeLength_22
  · refine g_aload_n C 0 dX8_codeLength_10 rfl ?_
    refine g_getr C 8 5 (75) (by decide) sh_0 rfl vc_8 (by decide) inXX8 wfl_264 dX8_codeLength_11 ?_
    refine g_getiN C 5 10 (by decide) sh_75 rfl vc_5 (by decide) inXX5 wfn_190 dX8_codeLength_14 ?_
    refine g_goto C 22 dX8_codeLength_17 (by decide) ?_
    have e0 : r0 = σ 75 10 := (Option.some.inj hf).symm
    exact g_iret C rfl hQ (by rw [e0]) rfl dX8_codeLength_22
theorem c_X8_codeLength (l : Launch) {Gw : gW} (hI : g_I Gw) {σ : sg}  {r : Int32}  (hf : f_X8_codeLength σ = some r) : gM l Gw yX8_codeLength cX8_codeLength 1 (some .int) rm_X8_codeLength [.ref (Gw.2.2 0)] σ (qI (Gw) r σ) := by
  refine g_met hI (by decide) (Nat.le_of_ble_eq_true rfl) (fun X h1 h2 C hQ => ?_)
  subst h1; subst h2
  exact w_X8_codeLength_e C  hQ hf
theorem dX8_code_0 : decode cX8_code 0 = .ok (.aload_n 0, 1) := by decide +kernel
theorem dX8_code_1 : decode cX8_code 1 = .ok (.getfield 51, 3) := by decide +kernel
theorem dX8_code_4 : decode cX8_code 4 = .ok (.getfield 81, 3) := by decide +kernel
theorem dX8_code_7 : decode cX8_code 7 = .ok (.ifCond .ne 6, 3) := by decide +kernel
theorem dX8_code_10 : decode cX8_code 10 = .ok (.bipush (-5), 2) := by decide +kernel
theorem dX8_code_12 : decode cX8_code 12 = .ok (.ireturn, 1) := by decide +kernel
theorem dX8_code_13 : decode cX8_code 13 = .ok (.iload_n 1, 1) := by decide +kernel
theorem dX8_code_14 : decode cX8_code 14 = .ok (.ifCond .lt 14, 3) := by decide +kernel
theorem dX8_code_17 : decode cX8_code 17 = .ok (.iload_n 1, 1) := by decide +kernel
theorem dX8_code_18 : decode cX8_code 18 = .ok (.aload_n 0, 1) := by decide +kernel
theorem dX8_code_19 : decode cX8_code 19 = .ok (.getfield 51, 3) := by decide +kernel
theorem dX8_code_22 : decode cX8_code 22 = .ok (.getfield 186, 3) := by decide +kernel
theorem dX8_code_25 : decode cX8_code 25 = .ok (.if_icmp .lt 5, 3) := by decide +kernel
theorem dX8_code_28 : decode cX8_code 28 = .ok (.iconst (-1), 1) := by decide +kernel
theorem dX8_code_29 : decode cX8_code 29 = .ok (.ireturn, 1) := by decide +kernel
theorem dX8_code_30 : decode cX8_code 30 = .ok (.aload_n 0, 1) := by decide +kernel
theorem dX8_code_31 : decode cX8_code 31 = .ok (.getfield 51, 3) := by decide +kernel
theorem dX8_code_34 : decode cX8_code 34 = .ok (.getfield 189, 3) := by decide +kernel
theorem dX8_code_37 : decode cX8_code 37 = .ok (.iload_n 1, 1) := by decide +kernel
theorem dX8_code_38 : decode cX8_code 38 = .ok (.iaload, 1) := by decide +kernel
theorem dX8_code_39 : decode cX8_code 39 = .ok (.sipush 2000, 3) := by decide +kernel
theorem dX8_code_42 : decode cX8_code 42 = .ok (.iadd, 1) := by decide +kernel
theorem dX8_code_43 : decode cX8_code 43 = .ok (.ireturn, 1) := by decide +kernel
abbrev rm_X8_code : Room := { frames := 0, cells := 0, slots := 0, locals := 0 }
theorem w_X8_code_e {X : gX} {σ : sg} {p1 : Int32} {r0 : Int32} (C : gC X cX8_code 2 RX8 (some .int) rm_X8_code)  (hQ : gQ X (qI (XG X) r0 σ)) (hf : f_X8_code σ p1 = some r0) : G X 2 σ 0 [(0, .ref (Xd X 0)), (1, .int p1)] [] := by
  unfold f_X8_code at hf
  refine g_aload_n C 0 dX8_code_0 rfl ?_
  refine g_getr C 8 5 (75) (by decide) sh_0 rfl vc_8 (by decide) inXX8 wfl_264 dX8_code_1 ?_
  refine g_getiN C 5 12 (by decide) sh_75 rfl vc_5 (by decide) inXX5 wfn_194 dX8_code_4 ?_
  refine g_if_ne C 13 hf dX8_code_7 (by decide) (fun hf => ?_) (fun hf => ?_)
  · refine g_bipush C (v := (-5)) dX8_code_10 rfl ?_
    have e0 : r0 = (-5 : Int32) := (Option.some.inj hf).symm
    exact g_iret C rfl hQ (by rw [e0]) rfl dX8_code_12
  · refine g_iload_n C 1 dX8_code_13 rfl ?_
    refine g_if_lt C 28 hf dX8_code_14 (by decide) (fun hf => ?_) (fun hf => ?_)
    · refine g_iconst C (v := (-1)) dX8_code_28 rfl ?_
      have e0 : r0 = (-1 : Int32) := (Option.some.inj hf).symm
      exact g_iret C rfl hQ (by rw [e0]) rfl dX8_code_29
    · refine g_iload_n C 1 dX8_code_17 rfl ?_
      refine g_aload_n C 0 dX8_code_18 rfl ?_
      refine g_getr C 8 5 (75) (by decide) sh_0 rfl vc_8 (by decide) inXX8 wfl_264 dX8_code_19 ?_
      refine g_getiN C 5 10 (by decide) sh_75 rfl vc_5 (by decide) inXX5 wfn_190 dX8_code_22 ?_
      refine g_icmp_lt C 30 hf dX8_code_25 (by decide) (fun hf => ?_) (fun hf => ?_)
      · refine g_aload_n C 0 dX8_code_30 rfl ?_
        refine g_getr C 8 5 (75) (by decide) sh_0 rfl vc_8 (by decide) inXX8 wfl_264 dX8_code_31 ?_
        refine g_getrN C 5 9 (144) (by decide) sh_75 rfl vc_5 (by decide) inXX5 wfn_188 dX8_code_34 ?_
        refine g_iload_n C 1 dX8_code_37 rfl ?_
        obtain ⟨v38, h1, hf⟩ := g_bind hf
        refine g_iald C h1 dX8_code_38 ?_
        clear h1
        refine g_sipush C (v := 2000) dX8_code_39 rfl ?_
        refine g_iadd C dX8_code_42 ?_
        have e0 : r0 = v38 + (2000 : Int32) := (Option.some.inj hf).symm
        exact g_iret C rfl hQ (by rw [e0]) rfl dX8_code_43
      · refine g_iconst C (v := (-1)) dX8_code_28 rfl ?_
        have e0 : r0 = (-1 : Int32) := (Option.some.inj hf).symm
        exact g_iret C rfl hQ (by rw [e0]) rfl dX8_code_29
theorem c_X8_code (l : Launch) {Gw : gW} (hI : g_I Gw) {σ : sg} {p1 : Int32} {r : Int32}  (hf : f_X8_code σ p1 = some r) : gM l Gw yX8_code cX8_code 2 (some .int) rm_X8_code [.ref (Gw.2.2 0), .int p1] σ (qI (Gw) r σ) := by
  refine g_met hI (by decide) (Nat.le_of_ble_eq_true rfl) (fun X h1 h2 C hQ => ?_)
  subst h1; subst h2
  exact w_X8_code_e C  hQ hf
theorem dX8_codeIndex_0 : decode cX8_codeIndex 0 = .ok (.aload_n 0, 1) := by decide +kernel
theorem dX8_codeIndex_1 : decode cX8_codeIndex 1 = .ok (.getfield 51, 3) := by decide +kernel
theorem dX8_codeIndex_4 : decode cX8_codeIndex 4 = .ok (.getfield 81, 3) := by decide +kernel
theorem dX8_codeIndex_7 : decode cX8_codeIndex 7 = .ok (.ifCond .ne 6, 3) := by decide +kernel
theorem dX8_codeIndex_10 : decode cX8_codeIndex 10 = .ok (.bipush (-5), 2) := by decide +kernel
theorem dX8_codeIndex_12 : decode cX8_codeIndex 12 = .ok (.ireturn, 1) := by decide +kernel
theorem dX8_codeIndex_13 : decode cX8_codeIndex 13 = .ok (.aload_n 0, 1) := by decide +kernel
theorem dX8_codeIndex_14 : decode cX8_codeIndex 14 = .ok (.getfield 26, 3) := by decide +kernel
theorem dX8_codeIndex_17 : decode cX8_codeIndex 17 = .ok (.iload_n 1, 1) := by decide +kernel
theorem dX8_codeIndex_18 : decode cX8_codeIndex 18 = .ok (.invokevirtual 124, 3) := by decide +kernel
theorem dX8_codeIndex_21 : decode cX8_codeIndex 21 = .ok (.ifCond .eq 15, 3) := by decide +kernel
theorem dX8_codeIndex_24 : decode cX8_codeIndex 24 = .ok (.aload_n 0, 1) := by decide +kernel
theorem dX8_codeIndex_25 : decode cX8_codeIndex 25 = .ok (.getfield 51, 3) := by decide +kernel
theorem dX8_codeIndex_28 : decode cX8_codeIndex 28 = .ok (.getfield 192, 3) := by decide +kernel
theorem dX8_codeIndex_31 : decode cX8_codeIndex 31 = .ok (.iload_n 1, 1) := by decide +kernel
theorem dX8_codeIndex_32 : decode cX8_codeIndex 32 = .ok (.iaload, 1) := by decide +kernel
theorem dX8_codeIndex_33 : decode cX8_codeIndex 33 = .ok (.goto 4, 3) := by decide +kernel
theorem dX8_codeIndex_36 : decode cX8_codeIndex 36 = .ok (.iconst (-1), 1) := by decide +kernel
theorem dX8_codeIndex_37 : decode cX8_codeIndex 37 = .ok (.ireturn, 1) := by decide +kernel
abbrev rm_X8_codeIndex : Room := { frames := 1, cells := 0, slots := 0, locals := 21 }
theorem w_X8_codeIndex_e {X : gX} {σ : sg} {p1 : Int32} {r0 : Int32} (C : gC X cX8_codeIndex 2 RX8 (some .int) rm_X8_codeIndex)  (hQ : gQ X (qI (XG X) r0 σ)) (hf : f_X8_codeIndex σ p1 = some r0) : G X 2 σ 0 [(0, .ref (Xd X 0)), (1, .int p1)] [] := by
  unfold f_X8_codeIndex at hf
  refine g_aload_n C 0 dX8_codeIndex_0 rfl ?_
  refine g_getr C 8 5 (75) (by decide) sh_0 rfl vc_8 (by decide) inXX8 wfl_264 dX8_codeIndex_1 ?_
  refine g_getiN C 5 12 (by decide) sh_75 rfl vc_5 (by decide) inXX5 wfn_194 dX8_codeIndex_4 ?_
  refine g_if_ne C 13 hf dX8_codeIndex_7 (by decide) (fun hf => ?_) (fun hf => ?_)
  · refine g_bipush C (v := (-5)) dX8_codeIndex_10 rfl ?_
    have e0 : r0 = (-5 : Int32) := (Option.some.inj hf).symm
    exact g_iret C rfl hQ (by rw [e0]) rfl dX8_codeIndex_12
  · refine g_aload_n C 0 dX8_codeIndex_13 rfl ?_
    refine g_getr C 8 2 (57) (by decide) sh_0 rfl vc_8 (by decide) inXX8 wfl_261 dX8_codeIndex_14 ?_
    refine g_iload_n C 1 dX8_codeIndex_17 rfl ?_
    obtain ⟨v18, h1, hf⟩ := g_bind hf
    refine g_callVi C 1 [.int p1] (c_X1_has (Xl X) (gC_I C)  h1) ⟨wml_393, wim_394, wse_395, win_4, wcd_396⟩ (by decide) sh_57 vc_1 rfl hd_X1_has ⟨rfl, rfl⟩ ⟨Nat.le_of_ble_eq_true rfl, Nat.le_of_ble_eq_true rfl⟩ rfl rfl (Nat.le_of_ble_eq_true rfl) dX8_codeIndex_18 ?_
    clear h1
    refine g_if_eq C 36 hf dX8_codeIndex_21 (by decide) (fun hf => ?_) (fun hf => ?_)
    · refine g_iconst C (v := (-1)) dX8_codeIndex_36 rfl ?_
      have e0 : r0 = (-1 : Int32) := (Option.some.inj hf).symm
      exact g_iret C rfl hQ (by rw [e0]) rfl dX8_codeIndex_37
    · refine g_aload_n C 0 dX8_codeIndex_24 rfl ?_
      refine g_getr C 8 5 (75) (by decide) sh_0 rfl vc_8 (by decide) inXX8 wfl_264 dX8_codeIndex_25 ?_
      refine g_getrN C 5 8 (143) (by decide) sh_75 rfl vc_5 (by decide) inXX5 wfn_186 dX8_codeIndex_28 ?_
      refine g_iload_n C 1 dX8_codeIndex_31 rfl ?_
      obtain ⟨v32, h1, hf⟩ := g_bind hf
      refine g_iald C h1 dX8_codeIndex_32 ?_
      clear h1
      refine g_goto C 37 dX8_codeIndex_33 (by decide) ?_
      have e0 : r0 = v32 := (Option.some.inj hf).symm
      exact g_iret C rfl hQ (by rw [e0]) rfl dX8_codeIndex_37
theorem c_X8_codeIndex (l : Launch) {Gw : gW} (hI : g_I Gw) {σ : sg} {p1 : Int32} {r : Int32}  (hf : f_X8_codeIndex σ p1 = some r) : gM l Gw yX8_codeIndex cX8_codeIndex 2 (some .int) rm_X8_codeIndex [.ref (Gw.2.2 0), .int p1] σ (qI (Gw) r σ) := by
  refine g_met hI (by decide) (Nat.le_of_ble_eq_true rfl) (fun X h1 h2 C hQ => ?_)
  subst h1; subst h2
  exact w_X8_codeIndex_e C  hQ hf
theorem dX8_setRegister_0 : decode cX8_setRegister 0 = .ok (.iload_n 1, 1) := by decide +kernel
theorem dX8_setRegister_1 : decode cX8_setRegister 1 = .ok (.ifCond .lt 9, 3) := by decide +kernel
theorem dX8_setRegister_4 : decode cX8_setRegister 4 = .ok (.iload_n 1, 1) := by decide +kernel
theorem dX8_setRegister_5 : decode cX8_setRegister 5 = .ok (.bipush 8, 2) := by decide +kernel
theorem dX8_setRegister_7 : decode cX8_setRegister 7 = .ok (.if_icmp .lt 5, 3) := by decide +kernel
theorem dX8_setRegister_10 : decode cX8_setRegister 10 = .ok (.iconst (-1), 1) := by decide +kernel
theorem dX8_setRegister_11 : decode cX8_setRegister 11 = .ok (.ireturn, 1) := by decide +kernel
theorem dX8_setRegister_12 : decode cX8_setRegister 12 = .ok (.aload_n 0, 1) := by decide +kernel
theorem dX8_setRegister_13 : decode cX8_setRegister 13 = .ok (.getfield 58, 3) := by decide +kernel
theorem dX8_setRegister_16 : decode cX8_setRegister 16 = .ok (.getfield 195, 3) := by decide +kernel
theorem dX8_setRegister_19 : decode cX8_setRegister 19 = .ok (.iload_n 1, 1) := by decide +kernel
theorem dX8_setRegister_20 : decode cX8_setRegister 20 = .ok (.iload_n 2, 1) := by decide +kernel
theorem dX8_setRegister_21 : decode cX8_setRegister 21 = .ok (.iastore, 1) := by decide +kernel
theorem dX8_setRegister_22 : decode cX8_setRegister 22 = .ok (.iconst 1, 1) := by decide +kernel
theorem dX8_setRegister_23 : decode cX8_setRegister 23 = .ok (.ireturn, 1) := by decide +kernel
abbrev rm_X8_setRegister : Room := { frames := 0, cells := 0, slots := 0, locals := 0 }
theorem w_X8_setRegister_e {X : gX} {σ : sg} {p1 : Int32} {p2 : Int32} {r0 : (Int32 × sg)} (C : gC X cX8_setRegister 3 RX8 (some .int) rm_X8_setRegister)  (hQ : gQ X (qI (XG X) r0.1 r0.2)) (hf : f_X8_setRegister σ p1 p2 = some r0) : G X 3 σ 0 [(0, .ref (Xd X 0)), (1, .int p1), (2, .int p2)] [] := by
  unfold f_X8_setRegister at hf
  refine g_iload_n C 1 dX8_setRegister_0 rfl ?_
  refine g_if_lt C 10 hf dX8_setRegister_1 (by decide) (fun hf => ?_) (fun hf => ?_)
  · refine g_iconst C (v := (-1)) dX8_setRegister_10 rfl ?_
    have e0 : r0 = ((-1 : Int32), σ) := (Option.some.inj hf).symm
    exact g_iret C rfl hQ (by rw [e0]) rfl dX8_setRegister_11
  · refine g_iload_n C 1 dX8_setRegister_4 rfl ?_
    refine g_bipush C (v := 8) dX8_setRegister_5 rfl ?_
    refine g_icmp_lt C 12 hf dX8_setRegister_7 (by decide) (fun hf => ?_) (fun hf => ?_)
    · refine g_aload_n C 0 dX8_setRegister_12 rfl ?_
      refine g_getr C 8 6 (145) (by decide) sh_0 rfl vc_8 (by decide) inXX8 wfl_265 dX8_setRegister_13 ?_
      refine g_getrN C 4 0 (145 + 1) (isM_lt (by unfold isM; decide)) (g_shM (by unfold isM; decide)) rfl vc_4 (by decide) inXX4 wfn_229 dX8_setRegister_16 ?_
      refine g_iload_n C 1 dX8_setRegister_19 rfl ?_
      refine g_iload_n C 2 dX8_setRegister_20 rfl ?_
      obtain ⟨s21, h1, hf⟩ := g_bind hf
      refine g_iast C h1 dX8_setRegister_21 ?_
      clear h1
      refine g_iconst C (v := 1) dX8_setRegister_22 rfl ?_
      have e0 : r0 = ((1 : Int32), s21) := (Option.some.inj hf).symm
      exact g_iret C rfl hQ (by rw [e0]) rfl dX8_setRegister_23
    · refine g_iconst C (v := (-1)) dX8_setRegister_10 rfl ?_
      have e0 : r0 = ((-1 : Int32), σ) := (Option.some.inj hf).symm
      exact g_iret C rfl hQ (by rw [e0]) rfl dX8_setRegister_11
theorem c_X8_setRegister (l : Launch) {Gw : gW} (hI : g_I Gw) {σ : sg} {p1 : Int32} {p2 : Int32} {r : (Int32 × sg)}  (hf : f_X8_setRegister σ p1 p2 = some r) : gM l Gw yX8_setRegister cX8_setRegister 3 (some .int) rm_X8_setRegister [.ref (Gw.2.2 0), .int p1, .int p2] σ (qI (Gw) r.1 r.2) := by
  refine g_met hI (by decide) (Nat.le_of_ble_eq_true rfl) (fun X h1 h2 C hQ => ?_)
  subst h1; subst h2
  exact w_X8_setRegister_e C  hQ hf
theorem dX8_register_0 : decode cX8_register 0 = .ok (.iload_n 1, 1) := by decide +kernel
theorem dX8_register_1 : decode cX8_register 1 = .ok (.ifCond .lt 9, 3) := by decide +kernel
theorem dX8_register_4 : decode cX8_register 4 = .ok (.iload_n 1, 1) := by decide +kernel
theorem dX8_register_5 : decode cX8_register 5 = .ok (.bipush 8, 2) := by decide +kernel
theorem dX8_register_7 : decode cX8_register 7 = .ok (.if_icmp .lt 7, 3) := by decide +kernel
theorem dX8_register_10 : decode cX8_register 10 = .ok (.ldc2_w 200, 3) := by decide +kernel
theorem dX8_register_13 : decode cX8_register 13 = .ok (.lreturn, 1) := by decide +kernel
theorem dX8_register_14 : decode cX8_register 14 = .ok (.aload_n 0, 1) := by decide +kernel
theorem dX8_register_15 : decode cX8_register 15 = .ok (.getfield 58, 3) := by decide +kernel
theorem dX8_register_18 : decode cX8_register 18 = .ok (.getfield 195, 3) := by decide +kernel
theorem dX8_register_21 : decode cX8_register 21 = .ok (.iload_n 1, 1) := by decide +kernel
theorem dX8_register_22 : decode cX8_register 22 = .ok (.iaload, 1) := by decide +kernel
theorem dX8_register_23 : decode cX8_register 23 = .ok (.i2l, 1) := by decide +kernel
theorem dX8_register_24 : decode cX8_register 24 = .ok (.lreturn, 1) := by decide +kernel
abbrev rm_X8_register : Room := { frames := 0, cells := 0, slots := 0, locals := 0 }
theorem w_X8_register_e {X : gX} {σ : sg} {p1 : Int32} {r0 : Int64} (C : gC X cX8_register 2 RX8 (some .long) rm_X8_register)  (hQ : gQ X (qL (XG X) r0 σ)) (hf : f_X8_register σ p1 = some r0) : G X 2 σ 0 [(0, .ref (Xd X 0)), (1, .int p1)] [] := by
  unfold f_X8_register at hf
  refine g_iload_n C 1 dX8_register_0 rfl ?_
  refine g_if_lt C 10 hf dX8_register_1 (by decide) (fun hf => ?_) (fun hf => ?_)
  · refine g_ldc2 C wco_573 dX8_register_10 ?_
    have e0 : r0 = (-9223372036854775808 : Int64) := (Option.some.inj hf).symm
    exact g_lret C rfl hQ (by rw [e0]) dX8_register_13
  · refine g_iload_n C 1 dX8_register_4 rfl ?_
    refine g_bipush C (v := 8) dX8_register_5 rfl ?_
    refine g_icmp_lt C 14 hf dX8_register_7 (by decide) (fun hf => ?_) (fun hf => ?_)
    · refine g_aload_n C 0 dX8_register_14 rfl ?_
      refine g_getr C 8 6 (145) (by decide) sh_0 rfl vc_8 (by decide) inXX8 wfl_265 dX8_register_15 ?_
      refine g_getrN C 4 0 (145 + 1) (isM_lt (by unfold isM; decide)) (g_shM (by unfold isM; decide)) rfl vc_4 (by decide) inXX4 wfn_229 dX8_register_18 ?_
      refine g_iload_n C 1 dX8_register_21 rfl ?_
      obtain ⟨v22, h1, hf⟩ := g_bind hf
      refine g_iald C h1 dX8_register_22 ?_
      clear h1
      refine g_i2l C dX8_register_23 ?_
      have e0 : r0 = v22.toInt64 := (Option.some.inj hf).symm
      exact g_lret C rfl hQ (by rw [e0]) dX8_register_24
    · refine g_ldc2 C wco_573 dX8_register_10 ?_
      have e0 : r0 = (-9223372036854775808 : Int64) := (Option.some.inj hf).symm
      exact g_lret C rfl hQ (by rw [e0]) dX8_register_13
theorem c_X8_register (l : Launch) {Gw : gW} (hI : g_I Gw) {σ : sg} {p1 : Int32} {r : Int64}  (hf : f_X8_register σ p1 = some r) : gM l Gw yX8_register cX8_register 2 (some .long) rm_X8_register [.ref (Gw.2.2 0), .int p1] σ (qL (Gw) r σ) := by
  refine g_met hI (by decide) (Nat.le_of_ble_eq_true rfl) (fun X h1 h2 C hQ => ?_)
  subst h1; subst h2
  exact w_X8_register_e C  hQ hf
