theorem dX6_latency_0 : decode cX6_latency 0 = .ok (.aload_n 0, 1) := by decide +kernel
theorem dX6_latency_1 : decode cX6_latency 1 = .ok (.getfield 11, 3) := by decide +kernel
theorem dX6_latency_4 : decode cX6_latency 4 = .ok (.iload_n 1, 1) := by decide +kernel
theorem dX6_latency_5 : decode cX6_latency 5 = .ok (.aaload, 1) := by decide +kernel
theorem dX6_latency_6 : decode cX6_latency 6 = .ok (.iconst 0, 1) := by decide +kernel
theorem dX6_latency_7 : decode cX6_latency 7 = .ok (.iaload, 1) := by decide +kernel
theorem dX6_latency_8 : decode cX6_latency 8 = .ok (.lookupswitch 32 #[(7, 28), (8, 30)], 28) := by decide +kernel
theorem dX6_latency_36 : decode cX6_latency 36 = .ok (.iconst 3, 1) := by decide +kernel
theorem dX6_latency_37 : decode cX6_latency 37 = .ok (.ireturn, 1) := by decide +kernel
theorem dX6_latency_38 : decode cX6_latency 38 = .ok (.iconst 2, 1) := by decide +kernel
theorem dX6_latency_39 : decode cX6_latency 39 = .ok (.ireturn, 1) := by decide +kernel
theorem dX6_latency_40 : decode cX6_latency 40 = .ok (.iconst 1, 1) := by decide +kernel
theorem dX6_latency_41 : decode cX6_latency 41 = .ok (.ireturn, 1) := by decide +kernel
abbrev rm_X6_latency : Room := { frames := 0, cells := 0, slots := 0, locals := 0 }
theorem w_X6_latency_e {X : gX} {σ : sg} {p1 : Int32} {r0 : Int32} (C : gC X cX6_latency 2 RX6 (some .int) rm_X6_latency)  (hQ : gQ X (qI (XG X) r0 σ)) (hf : f_X6_latency σ p1 = some r0) : G X 2 σ 0 [(0, .ref (Xd X 1)), (1, .int p1)] [] := by
  unfold f_X6_latency at hf
  refine g_aload_n C 0 dX6_latency_0 rfl ?_
  refine g_getr C 6 0 (2) (by decide) sh_1 rfl vc_6 (by decide) inXX6 wfl_30 dX6_latency_1 ?_
  refine g_iload_n C 1 dX6_latency_4 rfl ?_
  obtain ⟨q5, h1, hf⟩ := g_bind hf
  refine g_aald C h1 dX6_latency_5 ?_
  clear h1
  refine g_iconst C (v := 0) dX6_latency_6 rfl ?_
  obtain ⟨v7, h1, hf⟩ := g_bind hf
  refine g_iald C h1 dX6_latency_7 ?_
  clear h1
  refine g_if hf (fun hf e1 => ?_) (fun hf n0 => ?_)
  · refine g_look C 36 dX6_latency_8 (by decide) (by rw [e1] <;> rfl) (by decide) ?_
    refine g_iconst C (v := 3) dX6_latency_36 rfl ?_
    have e0 : r0 = (3 : Int32) := (Option.some.inj hf).symm
    exact g_iret C rfl hQ (by rw [e0]) rfl dX6_latency_37
  · refine g_if hf (fun hf e1 => ?_) (fun hf n1 => ?_)
    · refine g_look C 38 dX6_latency_8 (by decide) (by rw [e1] <;> rfl) (by decide) ?_
      refine g_iconst C (v := 2) dX6_latency_38 rfl ?_
      have e0 : r0 = (2 : Int32) := (Option.some.inj hf).symm
      exact g_iret C rfl hQ (by rw [e0]) rfl dX6_latency_39
    · refine g_look (off := 32) C 40 dX6_latency_8 (by decide) (by show Op.lookupswitch.offset [(7, 28), (8, 30)] 32 _ = _; rw [lv_osw (a := 7) n0 rfl, lv_osw (a := 8) n1 rfl] <;> rfl) (by decide) ?_
      refine g_iconst C (v := 1) dX6_latency_40 rfl ?_
      have e0 : r0 = (1 : Int32) := (Option.some.inj hf).symm
      exact g_iret C rfl hQ (by rw [e0]) rfl dX6_latency_41
theorem c_X6_latency (l : Launch) {Gw : gW} (hI : g_I Gw) {σ : sg} {p1 : Int32} {r : Int32}  (hf : f_X6_latency σ p1 = some r) : gM l Gw yX6_latency cX6_latency 2 (some .int) rm_X6_latency [.ref (Gw.2.2 1), .int p1] σ (qI (Gw) r σ) := by
  refine g_met hI (by decide) (Nat.le_of_ble_eq_true rfl) (fun X h1 h2 C hQ => ?_)
  subst h1; subst h2
  exact w_X6_latency_e C  hQ hf
theorem dX5_due_0 : decode cX5_due 0 = .ok (.aload_n 0, 1) := by decide +kernel
theorem dX5_due_1 : decode cX5_due 1 = .ok (.getfield 29, 3) := by decide +kernel
theorem dX5_due_4 : decode cX5_due 4 = .ok (.iload_n 1, 1) := by decide +kernel
theorem dX5_due_5 : decode cX5_due 5 = .ok (.iaload, 1) := by decide +kernel
theorem dX5_due_6 : decode cX5_due 6 = .ok (.aload_n 0, 1) := by decide +kernel
theorem dX5_due_7 : decode cX5_due 7 = .ok (.getfield 41, 3) := by decide +kernel
theorem dX5_due_10 : decode cX5_due 10 = .ok (.iload_n 1, 1) := by decide +kernel
theorem dX5_due_11 : decode cX5_due 11 = .ok (.invokevirtual 93, 3) := by decide +kernel
theorem dX5_due_14 : decode cX5_due 14 = .ok (.iadd, 1) := by decide +kernel
theorem dX5_due_15 : decode cX5_due 15 = .ok (.ireturn, 1) := by decide +kernel
abbrev rm_X5_due : Room := { frames := 1, cells := 0, slots := 0, locals := 21 }
theorem w_X5_due_e {X : gX} {σ : sg} {p1 : Int32} {r0 : Int32} (C : gC X cX5_due 2 RX5 (some .int) rm_X5_due)  (hQ : gQ X (qI (XG X) r0 σ)) (hf : f_X5_due σ p1 = some r0) : G X 2 σ 0 [(0, .ref (Xd X 75)), (1, .int p1)] [] := by
  unfold f_X5_due at hf
  refine g_aload_n C 0 dX5_due_0 rfl ?_
  refine g_getr C 5 6 (141) (by decide) sh_75 rfl vc_5 (by decide) inXX5 wfl_179 dX5_due_1 ?_
  refine g_iload_n C 1 dX5_due_4 rfl ?_
  obtain ⟨v5, h1, hf⟩ := g_bind hf
  refine g_iald C h1 dX5_due_5 ?_
  clear h1
  refine g_aload_n C 0 dX5_due_6 rfl ?_
  refine g_getr C 5 0 (1) (by decide) sh_75 rfl vc_5 (by decide) inXX5 wfl_168 dX5_due_7 ?_
  refine g_iload_n C 1 dX5_due_10 rfl ?_
  obtain ⟨v11, h1, hf⟩ := g_bind hf
  refine g_callVi C 1 [.int p1] (c_X6_latency (Xl X) (gC_I C)  h1) ⟨wml_503, wim_414, wse_415, win_2, wcd_416⟩ (by decide) sh_1 vc_6 rfl hd_X6_latency ⟨rfl, rfl⟩ ⟨Nat.le_of_ble_eq_true rfl, Nat.le_of_ble_eq_true rfl⟩ rfl rfl (Nat.le_of_ble_eq_true rfl) dX5_due_11 ?_
  clear h1
  refine g_iadd C dX5_due_14 ?_
  have e0 : r0 = v5 + v11 := (Option.some.inj hf).symm
  exact g_iret C rfl hQ (by rw [e0]) rfl dX5_due_15
theorem c_X5_due (l : Launch) {Gw : gW} (hI : g_I Gw) {σ : sg} {p1 : Int32} {r : Int32}  (hf : f_X5_due σ p1 = some r) : gM l Gw yX5_due cX5_due 2 (some .int) rm_X5_due [.ref (Gw.2.2 75), .int p1] σ (qI (Gw) r σ) := by
  refine g_met hI (by decide) (Nat.le_of_ble_eq_true rfl) (fun X h1 h2 C hQ => ?_)
  subst h1; subst h2
  exact w_X5_due_e C  hQ hf
theorem dX4_take_0 : decode cX4_take 0 = .ok (.aload_n 1, 1) := by decide +kernel
theorem dX4_take_1 : decode cX4_take 1 = .ok (.iconst 0, 1) := by decide +kernel
theorem dX4_take_2 : decode cX4_take 2 = .ok (.iaload, 1) := by decide +kernel
theorem dX4_take_3 : decode cX4_take 3 = .ok (.bipush 8, 2) := by decide +kernel
theorem dX4_take_5 : decode cX4_take 5 = .ok (.if_icmp .gt 15, 3) := by decide +kernel
theorem dX4_take_8 : decode cX4_take 8 = .ok (.aload_n 0, 1) := by decide +kernel
theorem dX4_take_9 : decode cX4_take 9 = .ok (.getfield 9, 3) := by decide +kernel
theorem dX4_take_12 : decode cX4_take 12 = .ok (.aload_n 1, 1) := by decide +kernel
theorem dX4_take_13 : decode cX4_take 13 = .ok (.iconst 1, 1) := by decide +kernel
theorem dX4_take_14 : decode cX4_take 14 = .ok (.iaload, 1) := by decide +kernel
theorem dX4_take_15 : decode cX4_take 15 = .ok (.iload_n 3, 1) := by decide +kernel
theorem dX4_take_16 : decode cX4_take 16 = .ok (.iastore, 1) := by decide +kernel
theorem dX4_take_17 : decode cX4_take 17 = .ok (.goto 18, 3) := by decide +kernel
theorem dX4_take_20 : decode cX4_take 20 = .ok (.aload_n 1, 1) := by decide +kernel
theorem dX4_take_21 : decode cX4_take 21 = .ok (.iconst 0, 1) := by decide +kernel
theorem dX4_take_22 : decode cX4_take 22 = .ok (.iaload, 1) := by decide +kernel
theorem dX4_take_23 : decode cX4_take 23 = .ok (.bipush 9, 2) := by decide +kernel
theorem dX4_take_25 : decode cX4_take 25 = .ok (.if_icmp .ne 10, 3) := by decide +kernel
theorem dX4_take_28 : decode cX4_take 28 = .ok (.aload_n 0, 1) := by decide +kernel
theorem dX4_take_29 : decode cX4_take 29 = .ok (.getfield 15, 3) := by decide +kernel
theorem dX4_take_32 : decode cX4_take 32 = .ok (.iload_n 2, 1) := by decide +kernel
theorem dX4_take_33 : decode cX4_take 33 = .ok (.iload_n 3, 1) := by decide +kernel
theorem dX4_take_34 : decode cX4_take 34 = .ok (.iastore, 1) := by decide +kernel
theorem dX4_take_35 : decode cX4_take 35 = .ok (.return_, 1) := by decide +kernel
abbrev rm_X4_take : Room := { frames := 0, cells := 0, slots := 0, locals := 0 }
theorem w_X4_take_e {X : gX} {σ : sg} {o : Nat} {p1 : Nat} {p2 : Int32} {p3 : Int32} {r0 : sg} (C : gC X cX4_take 4 RX4 none rm_X4_take) (hM : isM o) (hQ : gQ X (qV (XG X) r0)) (hf : f_X4_take σ o p1 p2 p3 = some r0) : G X 4 σ 0 [(0, .ref (Xd X o)), (1, .ref (Xd X p1)), (2, .int p2), (3, .int p3)] [] := by
  unfold f_X4_take at hf
  refine g_aload_n C 1 dX4_take_0 rfl ?_
  refine g_iconst C (v := 0) dX4_take_1 rfl ?_
  obtain ⟨v2, h1, hf⟩ := g_bind hf
  refine g_iald C h1 dX4_take_2 ?_
  clear h1
  refine g_bipush C (v := 8) dX4_take_3 rfl ?_
  refine g_icmp_gt C 20 hf dX4_take_5 (by decide) (fun hf => ?_) (fun hf => ?_)
  · refine g_aload_n C 1 dX4_take_20 rfl ?_
    refine g_iconst C (v := 0) dX4_take_21 rfl ?_
    obtain ⟨v22, h1, hf⟩ := g_bind hf
    refine g_iald C h1 dX4_take_22 ?_
    clear h1
    refine g_bipush C (v := 9) dX4_take_23 rfl ?_
    refine g_icmp_ne C 35 hf dX4_take_25 (by decide) (fun hf => ?_) (fun hf => ?_)
    · refine g_aload_n C 0 dX4_take_28 rfl ?_
      refine g_getr C 4 1 (o + 2) (isM_lt hM) (g_shM hM) rfl vc_4 (by decide) inXX4 wfl_230 dX4_take_29 ?_
      refine g_iload_n C 2 dX4_take_32 rfl ?_
      refine g_iload_n C 3 dX4_take_33 rfl ?_
      obtain ⟨s34, h1, hf⟩ := g_bind hf
      refine g_iast C h1 dX4_take_34 ?_
      clear h1
      have e0 : r0 = s34 := (Option.some.inj hf).symm
      exact g_vret C rfl hQ (by rw [e0]) dX4_take_35
    · have e0 : r0 = σ := (Option.some.inj hf).symm
      exact g_vret C rfl hQ (by rw [e0]) dX4_take_35
  · refine g_aload_n C 0 dX4_take_8 rfl ?_
    refine g_getr C 4 0 (o + 1) (isM_lt hM) (g_shM hM) rfl vc_4 (by decide) inXX4 wfl_228 dX4_take_9 ?_
    refine g_aload_n C 1 dX4_take_12 rfl ?_
    refine g_iconst C (v := 1) dX4_take_13 rfl ?_
    obtain ⟨v14, h1, hf⟩ := g_bind hf
    refine g_iald C h1 dX4_take_14 ?_
    clear h1
    refine g_iload_n C 3 dX4_take_15 rfl ?_
    obtain ⟨s16, h1, hf⟩ := g_bind hf
    refine g_iast C h1 dX4_take_16 ?_
    clear h1
    refine g_goto C 35 dX4_take_17 (by decide) ?_
    have e0 : r0 = s16 := (Option.some.inj hf).symm
    exact g_vret C rfl hQ (by rw [e0]) dX4_take_35
theorem c_X4_take (l : Launch) {Gw : gW} (hI : g_I Gw) {σ : sg} {o : Nat} {p1 : Nat} {p2 : Int32} {p3 : Int32} {r : sg} (hM : isM o) (hf : f_X4_take σ o p1 p2 p3 = some r) : gM l Gw yX4_take cX4_take 4 none rm_X4_take [.ref (Gw.2.2 o), .ref (Gw.2.2 p1), .int p2, .int p3] σ (qV (Gw) r) := by
  refine g_met hI (by decide) (Nat.le_of_ble_eq_true rfl) (fun X h1 h2 C hQ => ?_)
  subst h1; subst h2
  exact w_X4_take_e C hM hQ hf
theorem dX0_deliver_0 : decode cX0_deliver 0 = .ok (.iload_n 3, 1) := by decide +kernel
theorem dX0_deliver_1 : decode cX0_deliver 1 = .ok (.iconst 1, 1) := by decide +kernel
theorem dX0_deliver_2 : decode cX0_deliver 2 = .ok (.isub, 1) := by decide +kernel
theorem dX0_deliver_3 : decode cX0_deliver 3 = .ok (.istore 5, 2) := by decide +kernel
theorem dX0_deliver_5 : decode cX0_deliver 5 = .ok (.iload 5, 2) := by decide +kernel
theorem dX0_deliver_7 : decode cX0_deliver 7 = .ok (.iload_n 2, 1) := by decide +kernel
theorem dX0_deliver_8 : decode cX0_deliver 8 = .ok (.if_icmp .lt 68, 3) := by decide +kernel
theorem dX0_deliver_11 : decode cX0_deliver 11 = .ok (.aload_n 0, 1) := by decide +kernel
theorem dX0_deliver_12 : decode cX0_deliver 12 = .ok (.getfield 26, 3) := by decide +kernel
theorem dX0_deliver_15 : decode cX0_deliver 15 = .ok (.getfield 44, 3) := by decide +kernel
theorem dX0_deliver_18 : decode cX0_deliver 18 = .ok (.iload 5, 2) := by decide +kernel
theorem dX0_deliver_20 : decode cX0_deliver 20 = .ok (.iaload, 1) := by decide +kernel
theorem dX0_deliver_21 : decode cX0_deliver 21 = .ok (.iconst 3, 1) := by decide +kernel
theorem dX0_deliver_22 : decode cX0_deliver 22 = .ok (.iadd, 1) := by decide +kernel
theorem dX0_deliver_23 : decode cX0_deliver 23 = .ok (.iload 4, 2) := by decide +kernel
theorem dX0_deliver_25 : decode cX0_deliver 25 = .ok (.if_icmp .lt 51, 3) := by decide +kernel
theorem dX0_deliver_28 : decode cX0_deliver 28 = .ok (.aload_n 0, 1) := by decide +kernel
theorem dX0_deliver_29 : decode cX0_deliver 29 = .ok (.getfield 26, 3) := by decide +kernel
theorem dX0_deliver_32 : decode cX0_deliver 32 = .ok (.iload 5, 2) := by decide +kernel
theorem dX0_deliver_34 : decode cX0_deliver 34 = .ok (.invokevirtual 70, 3) := by decide +kernel
theorem dX0_deliver_37 : decode cX0_deliver 37 = .ok (.iload 4, 2) := by decide +kernel
theorem dX0_deliver_39 : decode cX0_deliver 39 = .ok (.if_icmp .ne 31, 3) := by decide +kernel
theorem dX0_deliver_42 : decode cX0_deliver 42 = .ok (.aload_n 1, 1) := by decide +kernel
theorem dX0_deliver_43 : decode cX0_deliver 43 = .ok (.aload_n 0, 1) := by decide +kernel
theorem dX0_deliver_44 : decode cX0_deliver 44 = .ok (.getfield 18, 3) := by decide +kernel
theorem dX0_deliver_47 : decode cX0_deliver 47 = .ok (.getfield 47, 3) := by decide +kernel
theorem dX0_deliver_50 : decode cX0_deliver 50 = .ok (.iload 5, 2) := by decide +kernel
theorem dX0_deliver_52 : decode cX0_deliver 52 = .ok (.aaload, 1) := by decide +kernel
theorem dX0_deliver_53 : decode cX0_deliver 53 = .ok (.aload_n 0, 1) := by decide +kernel
theorem dX0_deliver_54 : decode cX0_deliver 54 = .ok (.getfield 15, 3) := by decide +kernel
theorem dX0_deliver_57 : decode cX0_deliver 57 = .ok (.iload 5, 2) := by decide +kernel
theorem dX0_deliver_59 : decode cX0_deliver 59 = .ok (.iaload, 1) := by decide +kernel
theorem dX0_deliver_60 : decode cX0_deliver 60 = .ok (.aload_n 0, 1) := by decide +kernel
theorem dX0_deliver_61 : decode cX0_deliver 61 = .ok (.getfield 9, 3) := by decide +kernel
theorem dX0_deliver_64 : decode cX0_deliver 64 = .ok (.iload 5, 2) := by decide +kernel
theorem dX0_deliver_66 : decode cX0_deliver 66 = .ok (.iaload, 1) := by decide +kernel
theorem dX0_deliver_67 : decode cX0_deliver 67 = .ok (.invokevirtual 73, 3) := by decide +kernel
theorem dX0_deliver_70 : decode cX0_deliver 70 = .ok (.iinc 5 (-1), 3) := by decide +kernel
theorem dX0_deliver_73 : decode cX0_deliver 73 = .ok (.goto (-68), 3) := by decide +kernel
theorem dX0_deliver_76 : decode cX0_deliver 76 = .ok (.return_, 1) := by decide +kernel
abbrev rm_X0_deliver : Room := { frames := 2, cells := 0, slots := 0, locals := 42 }
theorem w_X0_deliver_70 {X : gX} {p1 : Nat} {p2 : Int32} {p4 : Int32} {x5 : Int32} {σ : sg} {r0 : sg} {r1 : ((Int32 × sg) ⊕ sg)} (C : gC X cX0_deliver 6 RX0 none rm_X0_deliver) (hM1 : isM p1) (hQ : gQ X (qV (XG X) r0)) (A1 : ∀ b, r1 = .inl b → G X 6 b.2 5 [(0, .ref (Xd X 154)), (1, .ref (Xd X p1)), (2, .int p2), (4, .int p4), (5, .int b.1)] []) (B1 : ∀ b, r1 = .inr b → b = r0) (hf : J_X0_deliver_70 p1 p2 p4 x5 σ = some r1) : G X 6 σ 70 [(0, .ref (Xd X 154)), (1, .ref (Xd X p1)), (2, .int p2), (4, .int p4), (5, .int x5)] [] := by
  unfold J_X0_deliver_70 at hf
  refine g_iinc C (v := x5 + (-1 : Int32)) (lv' := [(5, .int (x5 + (-1 : Int32))), (0, .ref (Xd X 154)), (1, .ref (Xd X p1)), (2, .int p2), (4, .int p4)]) 4 dX0_deliver_70 rfl rfl (by decide) rfl ?_
  refine g_goto C 5 dX0_deliver_73 (by decide) ?_
  refine g_sub [1, 2, 3, 4, 0] rfl ?_
  exact A1 (x5 + (-1 : Int32), σ) (Option.some.inj hf).symm
theorem w_X0_deliver_5 {X : gX} {p1 : Nat} {p2 : Int32} {p4 : Int32} {x5 : Int32} {σ : sg} {r0 : sg} {r1 : ((Int32 × sg) ⊕ sg)} (C : gC X cX0_deliver 6 RX0 none rm_X0_deliver) (hM1 : isM p1) (hQ : gQ X (qV (XG X) r0)) (A1 : ∀ b, r1 = .inl b → G X 6 b.2 5 [(0, .ref (Xd X 154)), (1, .ref (Xd X p1)), (2, .int p2), (4, .int p4), (5, .int b.1)] []) (B1 : ∀ b, r1 = .inr b → b = r0) (hf : B_X0_deliver_5 p1 p2 p4 x5 σ = some r1) : G X 6 σ 5 [(0, .ref (Xd X 154)), (1, .ref (Xd X p1)), (2, .int p2), (4, .int p4), (5, .int x5)] [] := by
  unfold B_X0_deliver_5 at hf
  refine g_iload C 4 dX0_deliver_5 rfl ?_
  refine g_iload_n C 2 dX0_deliver_7 rfl ?_
  refine g_icmp_lt C 76 hf dX0_deliver_8 (by decide) (fun hf => ?_) (fun hf => ?_)
  · have e0 : r0 = σ := (B1 _ (Option.some.inj hf).symm).symm
    exact g_vret C rfl hQ (by rw [e0]) dX0_deliver_76
  · refine g_aload_n C 0 dX0_deliver_11 rfl ?_
    refine g_getr C 0 2 (75) (by decide) sh_154 rfl vc_0 (by decide) inXX0 wfl_245 dX0_deliver_12 ?_
    refine g_getrN C 5 6 (141) (by decide) sh_75 rfl vc_5 (by decide) inXX5 wfn_180 dX0_deliver_15 ?_
    refine g_iload C 4 dX0_deliver_18 rfl ?_
    obtain ⟨v20, h1, hf⟩ := g_bind hf
    refine g_iald C h1 dX0_deliver_20 ?_
    clear h1
    refine g_iconst C (v := 3) dX0_deliver_21 rfl ?_
    refine g_iadd C dX0_deliver_22 ?_
    refine g_iload C 3 dX0_deliver_23 rfl ?_
    refine g_icmp_lt C 76 hf dX0_deliver_25 (by decide) (fun hf => ?_) (fun hf => ?_)
    · have e0 : r0 = σ := (B1 _ (Option.some.inj hf).symm).symm
      exact g_vret C rfl hQ (by rw [e0]) dX0_deliver_76
    · refine g_aload_n C 0 dX0_deliver_28 rfl ?_
      refine g_getr C 0 2 (75) (by decide) sh_154 rfl vc_0 (by decide) inXX0 wfl_245 dX0_deliver_29 ?_
      refine g_iload C 4 dX0_deliver_32 rfl ?_
      obtain ⟨v34, h1, hf⟩ := g_bind hf
      refine g_callVi C 1 [.int x5] (c_X5_due (Xl X) (gC_I C)  h1) ⟨wml_629, wim_500, wse_501, win_7, wcd_502⟩ (by decide) sh_75 vc_5 rfl hd_X5_due ⟨rfl, rfl⟩ ⟨Nat.le_of_ble_eq_true rfl, Nat.le_of_ble_eq_true rfl⟩ rfl rfl (Nat.le_of_ble_eq_true rfl) dX0_deliver_34 ?_
      clear h1
      refine g_iload C 3 dX0_deliver_37 rfl ?_
      refine g_icmp_ne C 70 hf dX0_deliver_39 (by decide) (fun hf => ?_) (fun hf => ?_)
      · refine g_aload_n C 1 dX0_deliver_42 rfl ?_
        refine g_aload_n C 0 dX0_deliver_43 rfl ?_
        refine g_getr C 0 0 (1) (by decide) sh_154 rfl vc_0 (by decide) inXX0 wfl_243 dX0_deliver_44 ?_
        refine g_getrN C 6 0 (2) (by decide) sh_1 rfl vc_6 (by decide) inXX6 wfn_32 dX0_deliver_47 ?_
        refine g_iload C 4 dX0_deliver_50 rfl ?_
        obtain ⟨q52, h1, hf⟩ := g_bind hf
        refine g_aald C h1 dX0_deliver_52 ?_
        clear h1
        refine g_aload_n C 0 dX0_deliver_53 rfl ?_
        refine g_getr C 0 4 (156) (by decide) sh_154 rfl vc_0 (by decide) inXX0 wfl_247 dX0_deliver_54 ?_
        refine g_iload C 4 dX0_deliver_57 rfl ?_
        obtain ⟨v59, h1, hf⟩ := g_bind hf
        refine g_iald C h1 dX0_deliver_59 ?_
        clear h1
        refine g_aload_n C 0 dX0_deliver_60 rfl ?_
        refine g_getr C 0 3 (155) (by decide) sh_154 rfl vc_0 (by decide) inXX0 wfl_246 dX0_deliver_61 ?_
        refine g_iload C 4 dX0_deliver_64 rfl ?_
        obtain ⟨v66, h1, hf⟩ := g_bind hf
        refine g_iald C h1 dX0_deliver_66 ?_
        clear h1
        obtain ⟨s67, h1, hf⟩ := g_bind hf
        refine g_callVv C 3 [.ref (Xd X q52), .int v59, .int v66] (c_X4_take (Xl X) (gC_I C) hM1 h1) ⟨wml_630, wim_610, wse_611, win_8, wcd_612⟩ (isM_lt hM1) (g_shM hM1) vc_4 rfl hd_X4_take ⟨rfl, rfl⟩ ⟨Nat.le_of_ble_eq_true rfl, Nat.le_of_ble_eq_true rfl⟩ rfl rfl (Nat.le_of_ble_eq_true rfl) dX0_deliver_67 ?_
        clear h1
        exact w_X0_deliver_70 C hM1 hQ A1 B1 hf
      · exact w_X0_deliver_70 C hM1 hQ A1 B1 hf
theorem wl_X0_deliver_5 {X : gX} {p1 : Nat} {p2 : Int32} {p4 : Int32} {r0 : sg} (C : gC X cX0_deliver 6 RX0 none rm_X0_deliver) (hM1 : isM p1) (hQ : gQ X (qV (XG X) r0))  {n : Nat} {a : (Int32 × sg)} (hf : L_X0_deliver_5 p1 p2 p4 n a = some r0) : G X 6 a.2 5 [(0, .ref (Xd X 154)), (1, .ref (Xd X p1)), (2, .int p2), (4, .int p4), (5, .int a.1)] [] := by
  unfold L_X0_deliver_5 at hf
  have key := g_loop_ind (res := r0) (f := fun a => B_X0_deliver_5 p1 p2 p4 a.1 a.2) (P := fun a => G X 6 a.2 5 [(0, .ref (Xd X 154)), (1, .ref (Xd X p1)), (2, .int p2), (4, .int p4), (5, .int a.1)] []) (fun a r1 h1 k1 k2 => w_X0_deliver_5 (x5 := a.1) (σ := a.2) C hM1 hQ  k1 k2 h1)
  exact key n a hf
theorem w_X0_deliver_e {X : gX} {σ : sg} {p1 : Nat} {p2 : Int32} {p3 : Int32} {p4 : Int32} {r0 : sg} (C : gC X cX0_deliver 6 RX0 none rm_X0_deliver) (hM1 : isM p1) (hQ : gQ X (qV (XG X) r0)) (hf : f_X0_deliver σ p1 p2 p3 p4 = some r0) : G X 6 σ 0 [(0, .ref (Xd X 154)), (1, .ref (Xd X p1)), (2, .int p2), (3, .int p3), (4, .int p4)] [] := by
  unfold f_X0_deliver at hf
  refine g_iload_n C 3 dX0_deliver_0 rfl ?_
  refine g_iconst C (v := 1) dX0_deliver_1 rfl ?_
  refine g_isub C dX0_deliver_2 ?_
  refine g_istore C (lv' := [(5, .int (p3 - (1 : Int32))), (0, .ref (Xd X 154)), (1, .ref (Xd X p1)), (2, .int p2), (3, .int p3), (4, .int p4)]) dX0_deliver_3 (by decide) rfl ?_
  refine g_sub [1, 2, 3, 5, 0] rfl ?_
  exact wl_X0_deliver_5 (a := (p3 - (1 : Int32), σ)) C hM1 hQ  hf
theorem c_X0_deliver (l : Launch) {Gw : gW} (hI : g_I Gw) {σ : sg} {p1 : Nat} {p2 : Int32} {p3 : Int32} {p4 : Int32} {r : sg} (hM1 : isM p1) (hf : f_X0_deliver σ p1 p2 p3 p4 = some r) : gM l Gw yX0_deliver cX0_deliver 6 none rm_X0_deliver [.ref (Gw.2.2 154), .ref (Gw.2.2 p1), .int p2, .int p3, .int p4] σ (qV (Gw) r) := by
  refine g_met hI (by decide) (Nat.le_of_ble_eq_true rfl) (fun X h1 h2 C hQ => ?_)
  subst h1; subst h2
  exact w_X0_deliver_e C hM1 hQ hf
theorem dX4_cellOf_0 : decode cX4_cellOf 0 = .ok (.aload_n 1, 1) := by decide +kernel
theorem dX4_cellOf_1 : decode cX4_cellOf 1 = .ok (.iconst 0, 1) := by decide +kernel
theorem dX4_cellOf_2 : decode cX4_cellOf 2 = .ok (.iaload, 1) := by decide +kernel
theorem dX4_cellOf_3 : decode cX4_cellOf 3 = .ok (.bipush 8, 2) := by decide +kernel
theorem dX4_cellOf_5 : decode cX4_cellOf 5 = .ok (.if_icmp .eq 11, 3) := by decide +kernel
theorem dX4_cellOf_8 : decode cX4_cellOf 8 = .ok (.aload_n 1, 1) := by decide +kernel
theorem dX4_cellOf_9 : decode cX4_cellOf 9 = .ok (.iconst 0, 1) := by decide +kernel
theorem dX4_cellOf_10 : decode cX4_cellOf 10 = .ok (.iaload, 1) := by decide +kernel
theorem dX4_cellOf_11 : decode cX4_cellOf 11 = .ok (.bipush 9, 2) := by decide +kernel
theorem dX4_cellOf_13 : decode cX4_cellOf 13 = .ok (.if_icmp .ne 7, 3) := by decide +kernel
theorem dX4_cellOf_16 : decode cX4_cellOf 16 = .ok (.iconst 1, 1) := by decide +kernel
theorem dX4_cellOf_17 : decode cX4_cellOf 17 = .ok (.goto 4, 3) := by decide +kernel
theorem dX4_cellOf_20 : decode cX4_cellOf 20 = .ok (.iconst 0, 1) := by decide +kernel
theorem dX4_cellOf_21 : decode cX4_cellOf 21 = .ok (.istore_n 2, 1) := by decide +kernel
theorem dX4_cellOf_22 : decode cX4_cellOf 22 = .ok (.iload_n 2, 1) := by decide +kernel
theorem dX4_cellOf_23 : decode cX4_cellOf 23 = .ok (.ifCond .eq 17, 3) := by decide +kernel
theorem dX4_cellOf_26 : decode cX4_cellOf 26 = .ok (.aload_n 0, 1) := by decide +kernel
theorem dX4_cellOf_27 : decode cX4_cellOf 27 = .ok (.getfield 9, 3) := by decide +kernel
theorem dX4_cellOf_30 : decode cX4_cellOf 30 = .ok (.aload_n 1, 1) := by decide +kernel
theorem dX4_cellOf_31 : decode cX4_cellOf 31 = .ok (.iconst 2, 1) := by decide +kernel
theorem dX4_cellOf_32 : decode cX4_cellOf 32 = .ok (.iaload, 1) := by decide +kernel
theorem dX4_cellOf_33 : decode cX4_cellOf 33 = .ok (.iaload, 1) := by decide +kernel
theorem dX4_cellOf_34 : decode cX4_cellOf 34 = .ok (.bipush 15, 2) := by decide +kernel
theorem dX4_cellOf_36 : decode cX4_cellOf 36 = .ok (.iand, 1) := by decide +kernel
theorem dX4_cellOf_37 : decode cX4_cellOf 37 = .ok (.goto 4, 3) := by decide +kernel
theorem dX4_cellOf_40 : decode cX4_cellOf 40 = .ok (.iconst 0, 1) := by decide +kernel
theorem dX4_cellOf_41 : decode cX4_cellOf 41 = .ok (.ireturn, 1) := by decide +kernel
abbrev rm_X4_cellOf : Room := { frames := 0, cells := 0, slots := 0, locals := 0 }
theorem w_X4_cellOf_21 {X : gX} {σ : sg} {o : Nat} {p1 : Nat} {t0 : Int32} {r0 : Int32} (C : gC X cX4_cellOf 3 RX4 (some .int) rm_X4_cellOf) (hM : isM o) (hQ : gQ X (qI (XG X) r0 σ))  (hf : J_X4_cellOf_21 σ o p1 t0 = some r0) : G X 3 σ 21 [(0, .ref (Xd X o)), (1, .ref (Xd X p1))] [.int t0] := by
  unfold J_X4_cellOf_21 at hf
  refine g_istore_n C (lv' := [(2, .int t0), (0, .ref (Xd X o)), (1, .ref (Xd X p1))]) dX4_cellOf_21 (by decide) rfl ?_
  refine g_iload_n C 0 dX4_cellOf_22 rfl ?_
  refine g_if_eq C 40 hf dX4_cellOf_23 (by decide) (fun hf => ?_) (fun hf => ?_)
  · refine g_iconst C (v := 0) dX4_cellOf_40 rfl ?_
    have e0 : r0 = (0 : Int32) := (Option.some.inj hf).symm
    exact g_iret C rfl hQ (by rw [e0]) rfl dX4_cellOf_41
  · refine g_aload_n C 1 dX4_cellOf_26 rfl ?_
    refine g_getr C 4 0 (o + 1) (isM_lt hM) (g_shM hM) rfl vc_4 (by decide) inXX4 wfl_228 dX4_cellOf_27 ?_
    refine g_aload_n C 2 dX4_cellOf_30 rfl ?_
    refine g_iconst C (v := 2) dX4_cellOf_31 rfl ?_
    obtain ⟨v32, h1, hf⟩ := g_bind hf
    refine g_iald C h1 dX4_cellOf_32 ?_
    clear h1
    obtain ⟨v33, h1, hf⟩ := g_bind hf
    refine g_iald C h1 dX4_cellOf_33 ?_
    clear h1
    refine g_bipush C (v := 15) dX4_cellOf_34 rfl ?_
    refine g_iand C dX4_cellOf_36 ?_
    refine g_goto C 41 dX4_cellOf_37 (by decide) ?_
    have e0 : r0 = v33 &&& (15 : Int32) := (Option.some.inj hf).symm
    exact g_iret C rfl hQ (by rw [e0]) rfl dX4_cellOf_41
theorem w_X4_cellOf_16 {X : gX} {σ : sg} {o : Nat} {p1 : Nat} {r0 : Int32} (C : gC X cX4_cellOf 3 RX4 (some .int) rm_X4_cellOf) (hM : isM o) (hQ : gQ X (qI (XG X) r0 σ))  (hf : J_X4_cellOf_16 σ o p1 = some r0) : G X 3 σ 16 [(0, .ref (Xd X o)), (1, .ref (Xd X p1))] [] := by
  unfold J_X4_cellOf_16 at hf
  refine g_iconst C (v := 1) dX4_cellOf_16 rfl ?_
  refine g_goto C 21 dX4_cellOf_17 (by decide) ?_
  exact w_X4_cellOf_21 C hM hQ  hf
theorem w_X4_cellOf_e {X : gX} {σ : sg} {o : Nat} {p1 : Nat} {r0 : Int32} (C : gC X cX4_cellOf 3 RX4 (some .int) rm_X4_cellOf) (hM : isM o) (hQ : gQ X (qI (XG X) r0 σ)) (hf : f_X4_cellOf σ o p1 = some r0) : G X 3 σ 0 [(0, .ref (Xd X o)), (1, .ref (Xd X p1))] [] := by
  unfold f_X4_cellOf at hf
  refine g_aload_n C 1 dX4_cellOf_0 rfl ?_
  refine g_iconst C (v := 0) dX4_cellOf_1 rfl ?_
  obtain ⟨v2, h1, hf⟩ := g_bind hf
  refine g_iald C h1 dX4_cellOf_2 ?_
  clear h1
  refine g_bipush C (v := 8) dX4_cellOf_3 rfl ?_
  refine g_icmp_eq C 16 hf dX4_cellOf_5 (by decide) (fun hf => ?_) (fun hf => ?_)
  · exact w_X4_cellOf_16 C hM hQ  hf
  · refine g_aload_n C 1 dX4_cellOf_8 rfl ?_
    refine g_iconst C (v := 0) dX4_cellOf_9 rfl ?_
    obtain ⟨v10, h1, hf⟩ := g_bind hf
    refine g_iald C h1 dX4_cellOf_10 ?_
    clear h1
    refine g_bipush C (v := 9) dX4_cellOf_11 rfl ?_
    refine g_icmp_ne C 20 hf dX4_cellOf_13 (by decide) (fun hf => ?_) (fun hf => ?_)
    · exact w_X4_cellOf_16 C hM hQ  hf
    · refine g_iconst C (v := 0) dX4_cellOf_20 rfl ?_
      exact w_X4_cellOf_21 C hM hQ  hf
theorem c_X4_cellOf (l : Launch) {Gw : gW} (hI : g_I Gw) {σ : sg} {o : Nat} {p1 : Nat} {r : Int32} (hM : isM o) (hf : f_X4_cellOf σ o p1 = some r) : gM l Gw yX4_cellOf cX4_cellOf 3 (some .int) rm_X4_cellOf [.ref (Gw.2.2 o), .ref (Gw.2.2 p1)] σ (qI (Gw) r σ) := by
  refine g_met hI (by decide) (Nat.le_of_ble_eq_true rfl) (fun X h1 h2 C hQ => ?_)
  subst h1; subst h2
  exact w_X4_cellOf_e C hM hQ hf
theorem dX4_calculated_0 : decode cX4_calculated 0 = .ok (.iload_n 0, 1) := by decide +kernel
theorem dX4_calculated_1 : decode cX4_calculated 1 = .ok (.tableswitch 73 1 6 #[39, 43, 47, 51, 55, 62], 39) := by decide +kernel
theorem dX4_calculated_40 : decode cX4_calculated 40 = .ok (.iload_n 1, 1) := by decide +kernel
theorem dX4_calculated_41 : decode cX4_calculated 41 = .ok (.iload_n 2, 1) := by decide +kernel
theorem dX4_calculated_42 : decode cX4_calculated 42 = .ok (.iadd, 1) := by decide +kernel
theorem dX4_calculated_43 : decode cX4_calculated 43 = .ok (.ireturn, 1) := by decide +kernel
theorem dX4_calculated_44 : decode cX4_calculated 44 = .ok (.iload_n 1, 1) := by decide +kernel
theorem dX4_calculated_45 : decode cX4_calculated 45 = .ok (.iload_n 2, 1) := by decide +kernel
theorem dX4_calculated_46 : decode cX4_calculated 46 = .ok (.isub, 1) := by decide +kernel
theorem dX4_calculated_47 : decode cX4_calculated 47 = .ok (.ireturn, 1) := by decide +kernel
theorem dX4_calculated_48 : decode cX4_calculated 48 = .ok (.iload_n 1, 1) := by decide +kernel
theorem dX4_calculated_49 : decode cX4_calculated 49 = .ok (.iload_n 2, 1) := by decide +kernel
theorem dX4_calculated_50 : decode cX4_calculated 50 = .ok (.iand, 1) := by decide +kernel
theorem dX4_calculated_51 : decode cX4_calculated 51 = .ok (.ireturn, 1) := by decide +kernel
theorem dX4_calculated_52 : decode cX4_calculated 52 = .ok (.iload_n 1, 1) := by decide +kernel
theorem dX4_calculated_53 : decode cX4_calculated 53 = .ok (.iload_n 2, 1) := by decide +kernel
theorem dX4_calculated_54 : decode cX4_calculated 54 = .ok (.ixor, 1) := by decide +kernel
theorem dX4_calculated_55 : decode cX4_calculated 55 = .ok (.ireturn, 1) := by decide +kernel
theorem dX4_calculated_56 : decode cX4_calculated 56 = .ok (.iload_n 1, 1) := by decide +kernel
theorem dX4_calculated_57 : decode cX4_calculated 57 = .ok (.iload_n 2, 1) := by decide +kernel
theorem dX4_calculated_58 : decode cX4_calculated 58 = .ok (.bipush 31, 2) := by decide +kernel
theorem dX4_calculated_60 : decode cX4_calculated 60 = .ok (.iand, 1) := by decide +kernel
theorem dX4_calculated_61 : decode cX4_calculated 61 = .ok (.ishr, 1) := by decide +kernel
theorem dX4_calculated_62 : decode cX4_calculated 62 = .ok (.ireturn, 1) := by decide +kernel
theorem dX4_calculated_63 : decode cX4_calculated 63 = .ok (.iload_n 1, 1) := by decide +kernel
theorem dX4_calculated_64 : decode cX4_calculated 64 = .ok (.iload_n 2, 1) := by decide +kernel
theorem dX4_calculated_65 : decode cX4_calculated 65 = .ok (.if_icmp .ge 7, 3) := by decide +kernel
theorem dX4_calculated_68 : decode cX4_calculated 68 = .ok (.iconst 1, 1) := by decide +kernel
theorem dX4_calculated_69 : decode cX4_calculated 69 = .ok (.goto 4, 3) := by decide +kernel
theorem dX4_calculated_72 : decode cX4_calculated 72 = .ok (.iconst 0, 1) := by decide +kernel
theorem dX4_calculated_73 : decode cX4_calculated 73 = .ok (.ireturn, 1) := by decide +kernel
theorem dX4_calculated_74 : decode cX4_calculated 74 = .ok (.iload_n 1, 1) := by decide +kernel
theorem dX4_calculated_75 : decode cX4_calculated 75 = .ok (.iload_n 2, 1) := by decide +kernel
theorem dX4_calculated_76 : decode cX4_calculated 76 = .ok (.imul, 1) := by decide +kernel
theorem dX4_calculated_77 : decode cX4_calculated 77 = .ok (.ireturn, 1) := by decide +kernel
abbrev rm_X4_calculated : Room := { frames := 0, cells := 0, slots := 0, locals := 0 }
theorem w_X4_calculated_e {X : gX} {σ : sg} {p0 : Int32} {p1 : Int32} {p2 : Int32} {r0 : Int32} (C : gC X cX4_calculated 3 RX4 (some .int) rm_X4_calculated)  (hQ : gQ X (qI (XG X) r0 σ)) (hf : f_X4_calculated σ p0 p1 p2 = some r0) : G X 3 σ 0 [(0, .int p0), (1, .int p1), (2, .int p2)] [] := by
  unfold f_X4_calculated at hf
  refine g_iload_n C 0 dX4_calculated_0 rfl ?_
  refine g_if hf (fun hf e1 => ?_) (fun hf n0 => ?_)
  · refine g_tcase C (1 : Int32) 40 dX4_calculated_1 e1 (by decide) (by decide) rfl (by decide) ?_
    refine g_iload_n C 1 dX4_calculated_40 rfl ?_
    refine g_iload_n C 2 dX4_calculated_41 rfl ?_
    refine g_iadd C dX4_calculated_42 ?_
    have e0 : r0 = p1 + p2 := (Option.some.inj hf).symm
    exact g_iret C rfl hQ (by rw [e0]) rfl dX4_calculated_43
  · refine g_if hf (fun hf e1 => ?_) (fun hf n1 => ?_)
    · refine g_tcase C (2 : Int32) 44 dX4_calculated_1 e1 (by decide) (by decide) rfl (by decide) ?_
      refine g_iload_n C 1 dX4_calculated_44 rfl ?_
      refine g_iload_n C 2 dX4_calculated_45 rfl ?_
      refine g_isub C dX4_calculated_46 ?_
      have e0 : r0 = p1 - p2 := (Option.some.inj hf).symm
      exact g_iret C rfl hQ (by rw [e0]) rfl dX4_calculated_47
    · refine g_if hf (fun hf e1 => ?_) (fun hf n2 => ?_)
      · refine g_tcase C (3 : Int32) 48 dX4_calculated_1 e1 (by decide) (by decide) rfl (by decide) ?_
        refine g_iload_n C 1 dX4_calculated_48 rfl ?_
        refine g_iload_n C 2 dX4_calculated_49 rfl ?_
        refine g_iand C dX4_calculated_50 ?_
        have e0 : r0 = p1 &&& p2 := (Option.some.inj hf).symm
        exact g_iret C rfl hQ (by rw [e0]) rfl dX4_calculated_51
      · refine g_if hf (fun hf e1 => ?_) (fun hf n3 => ?_)
        · refine g_tcase C (4 : Int32) 52 dX4_calculated_1 e1 (by decide) (by decide) rfl (by decide) ?_
          refine g_iload_n C 1 dX4_calculated_52 rfl ?_
          refine g_iload_n C 2 dX4_calculated_53 rfl ?_
          refine g_ixor C dX4_calculated_54 ?_
          have e0 : r0 = p1 ^^^ p2 := (Option.some.inj hf).symm
          exact g_iret C rfl hQ (by rw [e0]) rfl dX4_calculated_55
        · refine g_if hf (fun hf e1 => ?_) (fun hf n4 => ?_)
          · refine g_tcase C (5 : Int32) 56 dX4_calculated_1 e1 (by decide) (by decide) rfl (by decide) ?_
            refine g_iload_n C 1 dX4_calculated_56 rfl ?_
            refine g_iload_n C 2 dX4_calculated_57 rfl ?_
            refine g_bipush C (v := 31) dX4_calculated_58 rfl ?_
            refine g_iand C dX4_calculated_60 ?_
            refine g_ishr C dX4_calculated_61 ?_
            have e0 : r0 = p1 >>> ((p2 &&& (31 : Int32)) &&& 31) := (Option.some.inj hf).symm
            exact g_iret C rfl hQ (by rw [e0]) rfl dX4_calculated_62
          · refine g_if hf (fun hf e1 => ?_) (fun hf n5 => ?_)
            · refine g_tcase C (6 : Int32) 63 dX4_calculated_1 e1 (by decide) (by decide) rfl (by decide) ?_
              refine g_iload_n C 1 dX4_calculated_63 rfl ?_
              refine g_iload_n C 2 dX4_calculated_64 rfl ?_
              refine g_icmp_ge C 72 hf dX4_calculated_65 (by decide) (fun hf => ?_) (fun hf => ?_)
              · refine g_iconst C (v := 0) dX4_calculated_72 rfl ?_
                have e0 : r0 = (0 : Int32) := (Option.some.inj hf).symm
                exact g_iret C rfl hQ (by rw [e0]) rfl dX4_calculated_73
              · refine g_iconst C (v := 1) dX4_calculated_68 rfl ?_
                refine g_goto C 73 dX4_calculated_69 (by decide) ?_
                have e0 : r0 = (1 : Int32) := (Option.some.inj hf).symm
                exact g_iret C rfl hQ (by rw [e0]) rfl dX4_calculated_73
            · refine g_tout C 74 dX4_calculated_1 (by have := lv_neT (a := 1) n0 rfl; have := lv_neT (a := 2) n1 rfl; have := lv_neT (a := 3) n2 rfl; have := lv_neT (a := 4) n3 rfl; have := lv_neT (a := 5) n4 rfl; have := lv_neT (a := 6) n5 rfl; omega) (by decide) ?_
              refine g_iload_n C 1 dX4_calculated_74 rfl ?_
              refine g_iload_n C 2 dX4_calculated_75 rfl ?_
              refine g_imul C dX4_calculated_76 ?_
              have e0 : r0 = p1 * p2 := (Option.some.inj hf).symm
              exact g_iret C rfl hQ (by rw [e0]) rfl dX4_calculated_77
theorem c_X4_calculated (l : Launch) {Gw : gW} (hI : g_I Gw) {σ : sg} {p0 : Int32} {p1 : Int32} {p2 : Int32} {r : Int32}  (hf : f_X4_calculated σ p0 p1 p2 = some r) : gM l Gw yX4_calculated cX4_calculated 3 (some .int) rm_X4_calculated [.int p0, .int p1, .int p2] σ (qI (Gw) r σ) := by
  refine g_met hI (by decide) (Nat.le_of_ble_eq_true rfl) (fun X h1 h2 C hQ => ?_)
  subst h1; subst h2
  exact w_X4_calculated_e C  hQ hf
theorem dX4_resultOf_0 : decode cX4_resultOf 0 = .ok (.aload_n 1, 1) := by decide +kernel
theorem dX4_resultOf_1 : decode cX4_resultOf 1 = .ok (.iconst 0, 1) := by decide +kernel
theorem dX4_resultOf_2 : decode cX4_resultOf 2 = .ok (.iaload, 1) := by decide +kernel
theorem dX4_resultOf_3 : decode cX4_resultOf 3 = .ok (.tableswitch 91 0 12 #[65, 91, 91, 91, 91, 91, 91, 91, 69, 80, 89, 89, 89], 65) := by decide +kernel
theorem dX4_resultOf_68 : decode cX4_resultOf 68 = .ok (.aload_n 1, 1) := by decide +kernel
theorem dX4_resultOf_69 : decode cX4_resultOf 69 = .ok (.iconst 2, 1) := by decide +kernel
theorem dX4_resultOf_70 : decode cX4_resultOf 70 = .ok (.iaload, 1) := by decide +kernel
theorem dX4_resultOf_71 : decode cX4_resultOf 71 = .ok (.ireturn, 1) := by decide +kernel
theorem dX4_resultOf_72 : decode cX4_resultOf 72 = .ok (.aload_n 0, 1) := by decide +kernel
theorem dX4_resultOf_73 : decode cX4_resultOf 73 = .ok (.getfield 15, 3) := by decide +kernel
theorem dX4_resultOf_76 : decode cX4_resultOf 76 = .ok (.aload_n 0, 1) := by decide +kernel
theorem dX4_resultOf_77 : decode cX4_resultOf 77 = .ok (.aload_n 1, 1) := by decide +kernel
theorem dX4_resultOf_78 : decode cX4_resultOf 78 = .ok (.invokevirtual 28, 3) := by decide +kernel
theorem dX4_resultOf_81 : decode cX4_resultOf 81 = .ok (.iaload, 1) := by decide +kernel
theorem dX4_resultOf_82 : decode cX4_resultOf 82 = .ok (.ireturn, 1) := by decide +kernel
theorem dX4_resultOf_83 : decode cX4_resultOf 83 = .ok (.aload_n 0, 1) := by decide +kernel
theorem dX4_resultOf_84 : decode cX4_resultOf 84 = .ok (.getfield 9, 3) := by decide +kernel
theorem dX4_resultOf_87 : decode cX4_resultOf 87 = .ok (.aload_n 1, 1) := by decide +kernel
theorem dX4_resultOf_88 : decode cX4_resultOf 88 = .ok (.iconst 3, 1) := by decide +kernel
theorem dX4_resultOf_89 : decode cX4_resultOf 89 = .ok (.iaload, 1) := by decide +kernel
theorem dX4_resultOf_90 : decode cX4_resultOf 90 = .ok (.iaload, 1) := by decide +kernel
theorem dX4_resultOf_91 : decode cX4_resultOf 91 = .ok (.ireturn, 1) := by decide +kernel
theorem dX4_resultOf_92 : decode cX4_resultOf 92 = .ok (.iconst 0, 1) := by decide +kernel
theorem dX4_resultOf_93 : decode cX4_resultOf 93 = .ok (.ireturn, 1) := by decide +kernel
theorem dX4_resultOf_94 : decode cX4_resultOf 94 = .ok (.aload_n 1, 1) := by decide +kernel
theorem dX4_resultOf_95 : decode cX4_resultOf 95 = .ok (.iconst 0, 1) := by decide +kernel
theorem dX4_resultOf_96 : decode cX4_resultOf 96 = .ok (.iaload, 1) := by decide +kernel
theorem dX4_resultOf_97 : decode cX4_resultOf 97 = .ok (.aload_n 0, 1) := by decide +kernel
theorem dX4_resultOf_98 : decode cX4_resultOf 98 = .ok (.getfield 9, 3) := by decide +kernel
theorem dX4_resultOf_101 : decode cX4_resultOf 101 = .ok (.aload_n 1, 1) := by decide +kernel
theorem dX4_resultOf_102 : decode cX4_resultOf 102 = .ok (.iconst 2, 1) := by decide +kernel
theorem dX4_resultOf_103 : decode cX4_resultOf 103 = .ok (.iaload, 1) := by decide +kernel
theorem dX4_resultOf_104 : decode cX4_resultOf 104 = .ok (.iaload, 1) := by decide +kernel
theorem dX4_resultOf_105 : decode cX4_resultOf 105 = .ok (.aload_n 0, 1) := by decide +kernel
theorem dX4_resultOf_106 : decode cX4_resultOf 106 = .ok (.getfield 9, 3) := by decide +kernel
theorem dX4_resultOf_109 : decode cX4_resultOf 109 = .ok (.aload_n 1, 1) := by decide +kernel
theorem dX4_resultOf_110 : decode cX4_resultOf 110 = .ok (.iconst 3, 1) := by decide +kernel
theorem dX4_resultOf_111 : decode cX4_resultOf 111 = .ok (.iaload, 1) := by decide +kernel
theorem dX4_resultOf_112 : decode cX4_resultOf 112 = .ok (.iaload, 1) := by decide +kernel
theorem dX4_resultOf_113 : decode cX4_resultOf 113 = .ok (.invokestatic 39, 3) := by decide +kernel
theorem dX4_resultOf_116 : decode cX4_resultOf 116 = .ok (.ireturn, 1) := by decide +kernel
abbrev rm_X4_resultOf : Room := { frames := 1, cells := 0, slots := 0, locals := 22 }
theorem w_X4_resultOf_94 {X : gX} {σ : sg} {o : Nat} {p1 : Nat} {r0 : Int32} (C : gC X cX4_resultOf 2 RX4 (some .int) rm_X4_resultOf) (hM : isM o) (hQ : gQ X (qI (XG X) r0 σ))  (hf : J_X4_resultOf_94 σ o p1 = some r0) : G X 2 σ 94 [(0, .ref (Xd X o)), (1, .ref (Xd X p1))] [] := by
  unfold J_X4_resultOf_94 at hf
  refine g_aload_n C 1 dX4_resultOf_94 rfl ?_
  refine g_iconst C (v := 0) dX4_resultOf_95 rfl ?_
  obtain ⟨v96, h1, hf⟩ := g_bind hf
  refine g_iald C h1 dX4_resultOf_96 ?_
  clear h1
  refine g_aload_n C 0 dX4_resultOf_97 rfl ?_
  refine g_getr C 4 0 (o + 1) (isM_lt hM) (g_shM hM) rfl vc_4 (by decide) inXX4 wfl_228 dX4_resultOf_98 ?_
  refine g_aload_n C 1 dX4_resultOf_101 rfl ?_
  refine g_iconst C (v := 2) dX4_resultOf_102 rfl ?_
  obtain ⟨v103, h1, hf⟩ := g_bind hf
  refine g_iald C h1 dX4_resultOf_103 ?_
  clear h1
  obtain ⟨v104, h1, hf⟩ := g_bind hf
  refine g_iald C h1 dX4_resultOf_104 ?_
  clear h1
  refine g_aload_n C 0 dX4_resultOf_105 rfl ?_
  refine g_getr C 4 0 (o + 1) (isM_lt hM) (g_shM hM) rfl vc_4 (by decide) inXX4 wfl_228 dX4_resultOf_106 ?_
  refine g_aload_n C 1 dX4_resultOf_109 rfl ?_
  refine g_iconst C (v := 3) dX4_resultOf_110 rfl ?_
  obtain ⟨v111, h1, hf⟩ := g_bind hf
  refine g_iald C h1 dX4_resultOf_111 ?_
  clear h1
  obtain ⟨v112, h1, hf⟩ := g_bind hf
  refine g_iald C h1 dX4_resultOf_112 ?_
  clear h1
  obtain ⟨v113, h1, hf⟩ := g_bind hf
  refine g_callSi C 3 [.int v96, .int v104, .int v112] (c_X4_calculated (Xl X) (gC_I C)  h1) ⟨wml_606, wst_607, win_8, wcd_608⟩ hd_X4_calculated ⟨rfl, rfl⟩ ⟨Nat.le_of_ble_eq_true rfl, Nat.le_of_ble_eq_true rfl⟩ rfl rfl (Nat.le_of_ble_eq_true rfl) dX4_resultOf_113 ?_
  clear h1
  have e0 : r0 = v113 := (Option.some.inj hf).symm
  exact g_iret C rfl hQ (by rw [e0]) rfl dX4_resultOf_116
theorem w_X4_resultOf_e {X : gX} {σ : sg} {o : Nat} {p1 : Nat} {r0 : Int32} (C : gC X cX4_resultOf 2 RX4 (some .int) rm_X4_resultOf) (hM : isM o) (hQ : gQ X (qI (XG X) r0 σ)) (hf : f_X4_resultOf σ o p1 = some r0) : G X 2 σ 0 [(0, .ref (Xd X o)), (1, .ref (Xd X p1))] [] := by
  unfold f_X4_resultOf at hf
  refine g_aload_n C 1 dX4_resultOf_0 rfl ?_
  refine g_iconst C (v := 0) dX4_resultOf_1 rfl ?_
  obtain ⟨v2, h1, hf⟩ := g_bind hf
  refine g_iald C h1 dX4_resultOf_2 ?_
  clear h1
  refine g_if hf (fun hf e1 => ?_) (fun hf n0 => ?_)
  · refine g_tcase C (0 : Int32) 68 dX4_resultOf_3 e1 (by decide) (by decide) rfl (by decide) ?_
    refine g_aload_n C 1 dX4_resultOf_68 rfl ?_
    refine g_iconst C (v := 2) dX4_resultOf_69 rfl ?_
    obtain ⟨v70, h1, hf⟩ := g_bind hf
    refine g_iald C h1 dX4_resultOf_70 ?_
    clear h1
    have e0 : r0 = v70 := (Option.some.inj hf).symm
    exact g_iret C rfl hQ (by rw [e0]) rfl dX4_resultOf_71
  · refine g_if hf (fun hf e1 => ?_) (fun hf n1 => ?_)
    · refine g_tcase C (1 : Int32) 94 dX4_resultOf_3 e1 (by decide) (by decide) rfl (by decide) ?_
      exact w_X4_resultOf_94 C hM hQ  hf
    · refine g_if hf (fun hf e1 => ?_) (fun hf n2 => ?_)
      · refine g_tcase C (2 : Int32) 94 dX4_resultOf_3 e1 (by decide) (by decide) rfl (by decide) ?_
        exact w_X4_resultOf_94 C hM hQ  hf
      · refine g_if hf (fun hf e1 => ?_) (fun hf n3 => ?_)
        · refine g_tcase C (3 : Int32) 94 dX4_resultOf_3 e1 (by decide) (by decide) rfl (by decide) ?_
          exact w_X4_resultOf_94 C hM hQ  hf
        · refine g_if hf (fun hf e1 => ?_) (fun hf n4 => ?_)
          · refine g_tcase C (4 : Int32) 94 dX4_resultOf_3 e1 (by decide) (by decide) rfl (by decide) ?_
            exact w_X4_resultOf_94 C hM hQ  hf
          · refine g_if hf (fun hf e1 => ?_) (fun hf n5 => ?_)
            · refine g_tcase C (5 : Int32) 94 dX4_resultOf_3 e1 (by decide) (by decide) rfl (by decide) ?_
              exact w_X4_resultOf_94 C hM hQ  hf
            · refine g_if hf (fun hf e1 => ?_) (fun hf n6 => ?_)
              · refine g_tcase C (6 : Int32) 94 dX4_resultOf_3 e1 (by decide) (by decide) rfl (by decide) ?_
                exact w_X4_resultOf_94 C hM hQ  hf
              · refine g_if hf (fun hf e1 => ?_) (fun hf n7 => ?_)
                · refine g_tcase C (7 : Int32) 94 dX4_resultOf_3 e1 (by decide) (by decide) rfl (by decide) ?_
                  exact w_X4_resultOf_94 C hM hQ  hf
                · refine g_if hf (fun hf e1 => ?_) (fun hf n8 => ?_)
                  · refine g_tcase C (8 : Int32) 72 dX4_resultOf_3 e1 (by decide) (by decide) rfl (by decide) ?_
                    refine g_aload_n C 0 dX4_resultOf_72 rfl ?_
                    refine g_getr C 4 1 (o + 2) (isM_lt hM) (g_shM hM) rfl vc_4 (by decide) inXX4 wfl_230 dX4_resultOf_73 ?_
                    refine g_aload_n C 0 dX4_resultOf_76 rfl ?_
                    refine g_aload_n C 1 dX4_resultOf_77 rfl ?_
                    obtain ⟨v78, h1, hf⟩ := g_bind hf
                    refine g_callVi C 1 [.ref (Xd X p1)] (c_X4_cellOf (Xl X) (gC_I C) hM h1) ⟨wml_598, wim_599, wse_600, win_8, wcd_601⟩ (isM_lt hM) (g_shM hM) vc_4 rfl hd_X4_cellOf ⟨rfl, rfl⟩ ⟨Nat.le_of_ble_eq_true rfl, Nat.le_of_ble_eq_true rfl⟩ rfl rfl (Nat.le_of_ble_eq_true rfl) dX4_resultOf_78 ?_
                    clear h1
                    obtain ⟨v81, h1, hf⟩ := g_bind hf
                    refine g_iald C h1 dX4_resultOf_81 ?_
                    clear h1
                    have e0 : r0 = v81 := (Option.some.inj hf).symm
                    exact g_iret C rfl hQ (by rw [e0]) rfl dX4_resultOf_82
                  · refine g_if hf (fun hf e1 => ?_) (fun hf n9 => ?_)
                    · refine g_tcase C (9 : Int32) 83 dX4_resultOf_3 e1 (by decide) (by decide) rfl (by decide) ?_
                      refine g_aload_n C 0 dX4_resultOf_83 rfl ?_
                      refine g_getr C 4 0 (o + 1) (isM_lt hM) (g_shM hM) rfl vc_4 (by decide) inXX4 wfl_228 dX4_resultOf_84 ?_
                      refine g_aload_n C 1 dX4_resultOf_87 rfl ?_
                      refine g_iconst C (v := 3) dX4_resultOf_88 rfl ?_
                      obtain ⟨v89, h1, hf⟩ := g_bind hf
                      refine g_iald C h1 dX4_resultOf_89 ?_
                      clear h1
                      obtain ⟨v90, h1, hf⟩ := g_bind hf
                      refine g_iald C h1 dX4_resultOf_90 ?_
                      clear h1
                      have e0 : r0 = v90 := (Option.some.inj hf).symm
                      exact g_iret C rfl hQ (by rw [e0]) rfl dX4_resultOf_91
                    · refine g_if hf (fun hf e1 => ?_) (fun hf n10 => ?_)
                      · refine g_tcase C (10 : Int32) 92 dX4_resultOf_3 e1 (by decide) (by decide) rfl (by decide) ?_
                        refine g_iconst C (v := 0) dX4_resultOf_92 rfl ?_
                        have e0 : r0 = (0 : Int32) := (Option.some.inj hf).symm
                        exact g_iret C rfl hQ (by rw [e0]) rfl dX4_resultOf_93
                      · refine g_if hf (fun hf e1 => ?_) (fun hf n11 => ?_)
                        · refine g_tcase C (11 : Int32) 92 dX4_resultOf_3 e1 (by decide) (by decide) rfl (by decide) ?_
                          refine g_iconst C (v := 0) dX4_resultOf_92 rfl ?_
                          have e0 : r0 = (0 : Int32) := (Option.some.inj hf).symm
                          exact g_iret C rfl hQ (by rw [e0]) rfl dX4_resultOf_93
                        · refine g_if hf (fun hf e1 => ?_) (fun hf n12 => ?_)
                          · refine g_tcase C (12 : Int32) 92 dX4_resultOf_3 e1 (by decide) (by decide) rfl (by decide) ?_
                            refine g_iconst C (v := 0) dX4_resultOf_92 rfl ?_
                            have e0 : r0 = (0 : Int32) := (Option.some.inj hf).symm
                            exact g_iret C rfl hQ (by rw [e0]) rfl dX4_resultOf_93
                          · refine g_tout C 94 dX4_resultOf_3 (by have := lv_neT (a := 0) n0 rfl; have := lv_neT (a := 1) n1 rfl; have := lv_neT (a := 2) n2 rfl; have := lv_neT (a := 3) n3 rfl; have := lv_neT (a := 4) n4 rfl; have := lv_neT (a := 5) n5 rfl; have := lv_neT (a := 6) n6 rfl; have := lv_neT (a := 7) n7 rfl; have := lv_neT (a := 8) n8 rfl; have := lv_neT (a := 9) n9 rfl; have := lv_neT (a := 10) n10 rfl; have := lv_neT (a := 11) n11 rfl; have := lv_neT (a := 12) n12 rfl; omega) (by decide) ?_
                            exact w_X4_resultOf_94 C hM hQ  hf
theorem c_X4_resultOf (l : Launch) {Gw : gW} (hI : g_I Gw) {σ : sg} {o : Nat} {p1 : Nat} {r : Int32} (hM : isM o) (hf : f_X4_resultOf σ o p1 = some r) : gM l Gw yX4_resultOf cX4_resultOf 2 (some .int) rm_X4_resultOf [.ref (Gw.2.2 o), .ref (Gw.2.2 p1)] σ (qI (Gw) r σ) := by
  refine g_met hI (by decide) (Nat.le_of_ble_eq_true rfl) (fun X h1 h2 C hQ => ?_)
  subst h1; subst h2
  exact w_X4_resultOf_e C hM hQ hf
theorem dX4_successor_0 : decode cX4_successor 0 = .ok (.aload_n 1, 1) := by decide +kernel
theorem dX4_successor_1 : decode cX4_successor 1 = .ok (.iconst 0, 1) := by decide +kernel
theorem dX4_successor_2 : decode cX4_successor 2 = .ok (.iaload, 1) := by decide +kernel
theorem dX4_successor_3 : decode cX4_successor 3 = .ok (.tableswitch 52 10 12 #[25, 29, 50], 25) := by decide +kernel
theorem dX4_successor_28 : decode cX4_successor 28 = .ok (.aload_n 1, 1) := by decide +kernel
theorem dX4_successor_29 : decode cX4_successor 29 = .ok (.iconst 2, 1) := by decide +kernel
theorem dX4_successor_30 : decode cX4_successor 30 = .ok (.iaload, 1) := by decide +kernel
theorem dX4_successor_31 : decode cX4_successor 31 = .ok (.ireturn, 1) := by decide +kernel
theorem dX4_successor_32 : decode cX4_successor 32 = .ok (.aload_n 0, 1) := by decide +kernel
theorem dX4_successor_33 : decode cX4_successor 33 = .ok (.getfield 9, 3) := by decide +kernel
theorem dX4_successor_36 : decode cX4_successor 36 = .ok (.aload_n 1, 1) := by decide +kernel
theorem dX4_successor_37 : decode cX4_successor 37 = .ok (.iconst 3, 1) := by decide +kernel
theorem dX4_successor_38 : decode cX4_successor 38 = .ok (.iaload, 1) := by decide +kernel
theorem dX4_successor_39 : decode cX4_successor 39 = .ok (.iaload, 1) := by decide +kernel
theorem dX4_successor_40 : decode cX4_successor 40 = .ok (.ifCond .eq 9, 3) := by decide +kernel
theorem dX4_successor_43 : decode cX4_successor 43 = .ok (.aload_n 1, 1) := by decide +kernel
theorem dX4_successor_44 : decode cX4_successor 44 = .ok (.iconst 2, 1) := by decide +kernel
theorem dX4_successor_45 : decode cX4_successor 45 = .ok (.iaload, 1) := by decide +kernel
theorem dX4_successor_46 : decode cX4_successor 46 = .ok (.goto 6, 3) := by decide +kernel
theorem dX4_successor_49 : decode cX4_successor 49 = .ok (.iload_n 2, 1) := by decide +kernel
theorem dX4_successor_50 : decode cX4_successor 50 = .ok (.iconst 1, 1) := by decide +kernel
theorem dX4_successor_51 : decode cX4_successor 51 = .ok (.iadd, 1) := by decide +kernel
theorem dX4_successor_52 : decode cX4_successor 52 = .ok (.ireturn, 1) := by decide +kernel
theorem dX4_successor_53 : decode cX4_successor 53 = .ok (.iconst (-1), 1) := by decide +kernel
theorem dX4_successor_54 : decode cX4_successor 54 = .ok (.ireturn, 1) := by decide +kernel
theorem dX4_successor_55 : decode cX4_successor 55 = .ok (.iload_n 2, 1) := by decide +kernel
theorem dX4_successor_56 : decode cX4_successor 56 = .ok (.iconst 1, 1) := by decide +kernel
theorem dX4_successor_57 : decode cX4_successor 57 = .ok (.iadd, 1) := by decide +kernel
theorem dX4_successor_58 : decode cX4_successor 58 = .ok (.ireturn, 1) := by decide +kernel
abbrev rm_X4_successor : Room := { frames := 0, cells := 0, slots := 0, locals := 0 }
theorem w_X4_successor_e {X : gX} {σ : sg} {o : Nat} {p1 : Nat} {p2 : Int32} {r0 : Int32} (C : gC X cX4_successor 3 RX4 (some .int) rm_X4_successor) (hM : isM o) (hQ : gQ X (qI (XG X) r0 σ)) (hf : f_X4_successor σ o p1 p2 = some r0) : G X 3 σ 0 [(0, .ref (Xd X o)), (1, .ref (Xd X p1)), (2, .int p2)] [] := by
  unfold f_X4_successor at hf
  refine g_aload_n C 1 dX4_successor_0 rfl ?_
  refine g_iconst C (v := 0) dX4_successor_1 rfl ?_
  obtain ⟨v2, h1, hf⟩ := g_bind hf
  refine g_iald C h1 dX4_successor_2 ?_
  clear h1
  refine g_if hf (fun hf e1 => ?_) (fun hf n0 => ?_)
  · refine g_tcase C (10 : Int32) 28 dX4_successor_3 e1 (by decide) (by decide) rfl (by decide) ?_
    refine g_aload_n C 1 dX4_successor_28 rfl ?_
    refine g_iconst C (v := 2) dX4_successor_29 rfl ?_
    obtain ⟨v30, h1, hf⟩ := g_bind hf
    refine g_iald C h1 dX4_successor_30 ?_
    clear h1
    have e0 : r0 = v30 := (Option.some.inj hf).symm
    exact g_iret C rfl hQ (by rw [e0]) rfl dX4_successor_31
  · refine g_if hf (fun hf e1 => ?_) (fun hf n1 => ?_)
    · refine g_tcase C (11 : Int32) 32 dX4_successor_3 e1 (by decide) (by decide) rfl (by decide) ?_
      refine g_aload_n C 0 dX4_successor_32 rfl ?_
      refine g_getr C 4 0 (o + 1) (isM_lt hM) (g_shM hM) rfl vc_4 (by decide) inXX4 wfl_228 dX4_successor_33 ?_
      refine g_aload_n C 1 dX4_successor_36 rfl ?_
      refine g_iconst C (v := 3) dX4_successor_37 rfl ?_
      obtain ⟨v38, h1, hf⟩ := g_bind hf
      refine g_iald C h1 dX4_successor_38 ?_
      clear h1
      obtain ⟨v39, h1, hf⟩ := g_bind hf
      refine g_iald C h1 dX4_successor_39 ?_
      clear h1
      refine g_if_eq C 49 hf dX4_successor_40 (by decide) (fun hf => ?_) (fun hf => ?_)
      · refine g_iload_n C 2 dX4_successor_49 rfl ?_
        refine g_iconst C (v := 1) dX4_successor_50 rfl ?_
        refine g_iadd C dX4_successor_51 ?_
        have e0 : r0 = p2 + (1 : Int32) := (Option.some.inj hf).symm
        exact g_iret C rfl hQ (by rw [e0]) rfl dX4_successor_52
      · refine g_aload_n C 1 dX4_successor_43 rfl ?_
        refine g_iconst C (v := 2) dX4_successor_44 rfl ?_
        obtain ⟨v45, h1, hf⟩ := g_bind hf
        refine g_iald C h1 dX4_successor_45 ?_
        clear h1
        refine g_goto C 52 dX4_successor_46 (by decide) ?_
        have e0 : r0 = v45 := (Option.some.inj hf).symm
        exact g_iret C rfl hQ (by rw [e0]) rfl dX4_successor_52
    · refine g_if hf (fun hf e1 => ?_) (fun hf n2 => ?_)
      · refine g_tcase C (12 : Int32) 53 dX4_successor_3 e1 (by decide) (by decide) rfl (by decide) ?_
        refine g_iconst C (v := (-1)) dX4_successor_53 rfl ?_
        have e0 : r0 = (-1 : Int32) := (Option.some.inj hf).symm
        exact g_iret C rfl hQ (by rw [e0]) rfl dX4_successor_54
      · refine g_tout C 55 dX4_successor_3 (by have := lv_neT (a := 10) n0 rfl; have := lv_neT (a := 11) n1 rfl; have := lv_neT (a := 12) n2 rfl; omega) (by decide) ?_
        refine g_iload_n C 2 dX4_successor_55 rfl ?_
        refine g_iconst C (v := 1) dX4_successor_56 rfl ?_
        refine g_iadd C dX4_successor_57 ?_
        have e0 : r0 = p2 + (1 : Int32) := (Option.some.inj hf).symm
        exact g_iret C rfl hQ (by rw [e0]) rfl dX4_successor_58
theorem c_X4_successor (l : Launch) {Gw : gW} (hI : g_I Gw) {σ : sg} {o : Nat} {p1 : Nat} {p2 : Int32} {r : Int32} (hM : isM o) (hf : f_X4_successor σ o p1 p2 = some r) : gM l Gw yX4_successor cX4_successor 3 (some .int) rm_X4_successor [.ref (Gw.2.2 o), .ref (Gw.2.2 p1), .int p2] σ (qI (Gw) r σ) := by
  refine g_met hI (by decide) (Nat.le_of_ble_eq_true rfl) (fun X h1 h2 C hQ => ?_)
  subst h1; subst h2
  exact w_X4_successor_e C hM hQ hf
theorem dX6_has_0 : decode cX6_has 0 = .ok (.iload_n 1, 1) := by decide +kernel
theorem dX6_has_1 : decode cX6_has 1 = .ok (.ifCond .lt 15, 3) := by decide +kernel
theorem dX6_has_4 : decode cX6_has 4 = .ok (.iload_n 1, 1) := by decide +kernel
theorem dX6_has_5 : decode cX6_has 5 = .ok (.aload_n 0, 1) := by decide +kernel
theorem dX6_has_6 : decode cX6_has 6 = .ok (.getfield 26, 3) := by decide +kernel
theorem dX6_has_9 : decode cX6_has 9 = .ok (.if_icmp .ge 7, 3) := by decide +kernel
theorem dX6_has_12 : decode cX6_has 12 = .ok (.iconst 1, 1) := by decide +kernel
theorem dX6_has_13 : decode cX6_has 13 = .ok (.goto 4, 3) := by decide +kernel
theorem dX6_has_16 : decode cX6_has 16 = .ok (.iconst 0, 1) := by decide +kernel
theorem dX6_has_17 : decode cX6_has 17 = .ok (.ireturn, 1) := by decide +kernel
abbrev rm_X6_has : Room := { frames := 0, cells := 0, slots := 0, locals := 0 }
theorem w_X6_has_e {X : gX} {σ : sg} {p1 : Int32} {r0 : Int32} (C : gC X cX6_has 2 RX6 (some .boolean) rm_X6_has)  (hQ : gQ X (qI (XG X) r0 σ)) (hf : f_X6_has σ p1 = some r0) : G X 2 σ 0 [(0, .ref (Xd X 1)), (1, .int p1)] [] := by
  unfold f_X6_has at hf
  refine g_iload_n C 1 dX6_has_0 rfl ?_
  refine g_if_lt C 16 hf dX6_has_1 (by decide) (fun hf => ?_) (fun hf => ?_)
  · refine g_iconst C (v := 0) dX6_has_16 rfl ?_
    have e0 : r0 = (0 : Int32) := (Option.some.inj hf).symm
    exact g_iret C rfl hQ (by rw [e0]) rfl dX6_has_17
  · refine g_iload_n C 1 dX6_has_4 rfl ?_
    refine g_aload_n C 0 dX6_has_5 rfl ?_
    refine g_geti C 6 1 (by decide) sh_1 rfl vc_6 (by decide) inXX6 wfl_37 dX6_has_6 ?_
    refine g_icmp_ge C 16 hf dX6_has_9 (by decide) (fun hf => ?_) (fun hf => ?_)
    · refine g_iconst C (v := 0) dX6_has_16 rfl ?_
      have e0 : r0 = (0 : Int32) := (Option.some.inj hf).symm
      exact g_iret C rfl hQ (by rw [e0]) rfl dX6_has_17
    · refine g_iconst C (v := 1) dX6_has_12 rfl ?_
      refine g_goto C 17 dX6_has_13 (by decide) ?_
      have e0 : r0 = (1 : Int32) := (Option.some.inj hf).symm
      exact g_iret C rfl hQ (by rw [e0]) rfl dX6_has_17
theorem c_X6_has (l : Launch) {Gw : gW} (hI : g_I Gw) {σ : sg} {p1 : Int32} {r : Int32}  (hf : f_X6_has σ p1 = some r) : gM l Gw yX6_has cX6_has 2 (some .boolean) rm_X6_has [.ref (Gw.2.2 1), .int p1] σ (qI (Gw) r σ) := by
  refine g_met hI (by decide) (Nat.le_of_ble_eq_true rfl) (fun X h1 h2 C hQ => ?_)
  subst h1; subst h2
  exact w_X6_has_e C  hQ hf
theorem dX0_blockAt_0 : decode cX0_blockAt 0 = .ok (.iload_n 1, 1) := by decide +kernel
theorem dX0_blockAt_1 : decode cX0_blockAt 1 = .ok (.iconst (-1), 1) := by decide +kernel
theorem dX0_blockAt_2 : decode cX0_blockAt 2 = .ok (.if_icmp .ne 5, 3) := by decide +kernel
theorem dX0_blockAt_5 : decode cX0_blockAt 5 = .ok (.iconst (-1), 1) := by decide +kernel
theorem dX0_blockAt_6 : decode cX0_blockAt 6 = .ok (.ireturn, 1) := by decide +kernel
theorem dX0_blockAt_7 : decode cX0_blockAt 7 = .ok (.aload_n 0, 1) := by decide +kernel
theorem dX0_blockAt_8 : decode cX0_blockAt 8 = .ok (.getfield 18, 3) := by decide +kernel
theorem dX0_blockAt_11 : decode cX0_blockAt 11 = .ok (.iload_n 1, 1) := by decide +kernel
theorem dX0_blockAt_12 : decode cX0_blockAt 12 = .ok (.invokevirtual 77, 3) := by decide +kernel
theorem dX0_blockAt_15 : decode cX0_blockAt 15 = .ok (.ifCond .eq 15, 3) := by decide +kernel
theorem dX0_blockAt_18 : decode cX0_blockAt 18 = .ok (.aload_n 0, 1) := by decide +kernel
theorem dX0_blockAt_19 : decode cX0_blockAt 19 = .ok (.getfield 22, 3) := by decide +kernel
theorem dX0_blockAt_22 : decode cX0_blockAt 22 = .ok (.getfield 81, 3) := by decide +kernel
theorem dX0_blockAt_25 : decode cX0_blockAt 25 = .ok (.iload_n 1, 1) := by decide +kernel
theorem dX0_blockAt_26 : decode cX0_blockAt 26 = .ok (.iaload, 1) := by decide +kernel
theorem dX0_blockAt_27 : decode cX0_blockAt 27 = .ok (.goto 10, 3) := by decide +kernel
theorem dX0_blockAt_30 : decode cX0_blockAt 30 = .ok (.aload_n 0, 1) := by decide +kernel
theorem dX0_blockAt_31 : decode cX0_blockAt 31 = .ok (.getfield 22, 3) := by decide +kernel
theorem dX0_blockAt_34 : decode cX0_blockAt 34 = .ok (.getfield 84, 3) := by decide +kernel
theorem dX0_blockAt_37 : decode cX0_blockAt 37 = .ok (.ireturn, 1) := by decide +kernel
abbrev rm_X0_blockAt : Room := { frames := 1, cells := 0, slots := 0, locals := 21 }
theorem w_X0_blockAt_e {X : gX} {σ : sg} {p1 : Int32} {r0 : Int32} (C : gC X cX0_blockAt 2 RX0 (some .int) rm_X0_blockAt)  (hQ : gQ X (qI (XG X) r0 σ)) (hf : f_X0_blockAt σ p1 = some r0) : G X 2 σ 0 [(0, .ref (Xd X 154)), (1, .int p1)] [] := by
  unfold f_X0_blockAt at hf
  refine g_iload_n C 1 dX0_blockAt_0 rfl ?_
  refine g_iconst C (v := (-1)) dX0_blockAt_1 rfl ?_
  refine g_icmp_ne C 7 hf dX0_blockAt_2 (by decide) (fun hf => ?_) (fun hf => ?_)
  · refine g_iconst C (v := (-1)) dX0_blockAt_5 rfl ?_
    have e0 : r0 = (-1 : Int32) := (Option.some.inj hf).symm
    exact g_iret C rfl hQ (by rw [e0]) rfl dX0_blockAt_6
  · refine g_aload_n C 0 dX0_blockAt_7 rfl ?_
    refine g_getr C 0 0 (1) (by decide) sh_154 rfl vc_0 (by decide) inXX0 wfl_243 dX0_blockAt_8 ?_
    refine g_iload_n C 1 dX0_blockAt_11 rfl ?_
    obtain ⟨v12, h1, hf⟩ := g_bind hf
    refine g_callVi C 1 [.int p1] (c_X6_has (Xl X) (gC_I C)  h1) ⟨wml_638, wim_340, wse_341, win_2, wcd_342⟩ (by decide) sh_1 vc_6 rfl hd_X6_has ⟨rfl, rfl⟩ ⟨Nat.le_of_ble_eq_true rfl, Nat.le_of_ble_eq_true rfl⟩ rfl rfl (Nat.le_of_ble_eq_true rfl) dX0_blockAt_12 ?_
    clear h1
    refine g_if_eq C 30 hf dX0_blockAt_15 (by decide) (fun hf => ?_) (fun hf => ?_)
    · refine g_aload_n C 0 dX0_blockAt_30 rfl ?_
      refine g_getr C 0 1 (57) (by decide) sh_154 rfl vc_0 (by decide) inXX0 wfl_244 dX0_blockAt_31 ?_
      refine g_getiN C 1 3 (by decide) sh_57 rfl vc_1 (by decide) inXX1 wfn_82 dX0_blockAt_34 ?_
      have e0 : r0 = σ 57 3 := (Option.some.inj hf).symm
      exact g_iret C rfl hQ (by rw [e0]) rfl dX0_blockAt_37
    · refine g_aload_n C 0 dX0_blockAt_18 rfl ?_
      refine g_getr C 0 1 (57) (by decide) sh_154 rfl vc_0 (by decide) inXX0 wfl_244 dX0_blockAt_19 ?_
      refine g_getrN C 1 1 (59) (by decide) sh_57 rfl vc_1 (by decide) inXX1 wfn_78 dX0_blockAt_22 ?_
      refine g_iload_n C 1 dX0_blockAt_25 rfl ?_
      obtain ⟨v26, h1, hf⟩ := g_bind hf
      refine g_iald C h1 dX0_blockAt_26 ?_
      clear h1
      refine g_goto C 37 dX0_blockAt_27 (by decide) ?_
      have e0 : r0 = v26 := (Option.some.inj hf).symm
      exact g_iret C rfl hQ (by rw [e0]) rfl dX0_blockAt_37
theorem c_X0_blockAt (l : Launch) {Gw : gW} (hI : g_I Gw) {σ : sg} {p1 : Int32} {r : Int32}  (hf : f_X0_blockAt σ p1 = some r) : gM l Gw yX0_blockAt cX0_blockAt 2 (some .int) rm_X0_blockAt [.ref (Gw.2.2 154), .int p1] σ (qI (Gw) r σ) := by
  refine g_met hI (by decide) (Nat.le_of_ble_eq_true rfl) (fun X h1 h2 C hQ => ?_)
  subst h1; subst h2
  exact w_X0_blockAt_e C  hQ hf
theorem dX0_execute_0 : decode cX0_execute 0 = .ok (.aload_n 0, 1) := by decide +kernel
theorem dX0_execute_1 : decode cX0_execute 1 = .ok (.getfield 22, 3) := by decide +kernel
theorem dX0_execute_4 : decode cX0_execute 4 = .ok (.getfield 30, 3) := by decide +kernel
theorem dX0_execute_7 : decode cX0_execute 7 = .ok (.iload_n 2, 1) := by decide +kernel
theorem dX0_execute_8 : decode cX0_execute 8 = .ok (.iaload, 1) := by decide +kernel
theorem dX0_execute_9 : decode cX0_execute 9 = .ok (.istore_n 3, 1) := by decide +kernel
theorem dX0_execute_10 : decode cX0_execute 10 = .ok (.aload_n 0, 1) := by decide +kernel
theorem dX0_execute_11 : decode cX0_execute 11 = .ok (.getfield 22, 3) := by decide +kernel
theorem dX0_execute_14 : decode cX0_execute 14 = .ok (.getfield 30, 3) := by decide +kernel
theorem dX0_execute_17 : decode cX0_execute 17 = .ok (.iload_n 2, 1) := by decide +kernel
theorem dX0_execute_18 : decode cX0_execute 18 = .ok (.iconst 1, 1) := by decide +kernel
theorem dX0_execute_19 : decode cX0_execute 19 = .ok (.iadd, 1) := by decide +kernel
theorem dX0_execute_20 : decode cX0_execute 20 = .ok (.iaload, 1) := by decide +kernel
theorem dX0_execute_21 : decode cX0_execute 21 = .ok (.istore 4, 2) := by decide +kernel
theorem dX0_execute_23 : decode cX0_execute 23 = .ok (.iload_n 3, 1) := by decide +kernel
theorem dX0_execute_24 : decode cX0_execute 24 = .ok (.istore 5, 2) := by decide +kernel
theorem dX0_execute_26 : decode cX0_execute 26 = .ok (.iload 4, 2) := by decide +kernel
theorem dX0_execute_28 : decode cX0_execute 28 = .ok (.istore 6, 2) := by decide +kernel
theorem dX0_execute_30 : decode cX0_execute 30 = .ok (.iconst 0, 1) := by decide +kernel
theorem dX0_execute_31 : decode cX0_execute 31 = .ok (.istore 7, 2) := by decide +kernel
theorem dX0_execute_33 : decode cX0_execute 33 = .ok (.iload 7, 2) := by decide +kernel
theorem dX0_execute_35 : decode cX0_execute 35 = .ok (.aload_n 0, 1) := by decide +kernel
theorem dX0_execute_36 : decode cX0_execute 36 = .ok (.getfield 26, 3) := by decide +kernel
theorem dX0_execute_39 : decode cX0_execute 39 = .ok (.getfield 35, 3) := by decide +kernel
theorem dX0_execute_42 : decode cX0_execute 42 = .ok (.iload_n 2, 1) := by decide +kernel
theorem dX0_execute_43 : decode cX0_execute 43 = .ok (.iaload, 1) := by decide +kernel
theorem dX0_execute_44 : decode cX0_execute 44 = .ok (.if_icmp .gt 107, 3) := by decide +kernel
theorem dX0_execute_47 : decode cX0_execute 47 = .ok (.aload_n 0, 1) := by decide +kernel
theorem dX0_execute_48 : decode cX0_execute 48 = .ok (.aload_n 1, 1) := by decide +kernel
theorem dX0_execute_49 : decode cX0_execute 49 = .ok (.iload_n 3, 1) := by decide +kernel
theorem dX0_execute_50 : decode cX0_execute 50 = .ok (.iload 5, 2) := by decide +kernel
theorem dX0_execute_52 : decode cX0_execute 52 = .ok (.iload 7, 2) := by decide +kernel
theorem dX0_execute_54 : decode cX0_execute 54 = .ok (.invokevirtual 40, 3) := by decide +kernel
theorem dX0_execute_57 : decode cX0_execute 57 = .ok (.iload 5, 2) := by decide +kernel
theorem dX0_execute_59 : decode cX0_execute 59 = .ok (.iload 4, 2) := by decide +kernel
theorem dX0_execute_61 : decode cX0_execute 61 = .ok (.if_icmp .ge 84, 3) := by decide +kernel
theorem dX0_execute_64 : decode cX0_execute 64 = .ok (.aload_n 0, 1) := by decide +kernel
theorem dX0_execute_65 : decode cX0_execute 65 = .ok (.getfield 26, 3) := by decide +kernel
theorem dX0_execute_68 : decode cX0_execute 68 = .ok (.getfield 44, 3) := by decide +kernel
theorem dX0_execute_71 : decode cX0_execute 71 = .ok (.iload 5, 2) := by decide +kernel
theorem dX0_execute_73 : decode cX0_execute 73 = .ok (.iaload, 1) := by decide +kernel
theorem dX0_execute_74 : decode cX0_execute 74 = .ok (.iload 7, 2) := by decide +kernel
theorem dX0_execute_76 : decode cX0_execute 76 = .ok (.if_icmp .ne 69, 3) := by decide +kernel
theorem dX0_execute_79 : decode cX0_execute 79 = .ok (.aload_n 0, 1) := by decide +kernel
theorem dX0_execute_80 : decode cX0_execute 80 = .ok (.getfield 9, 3) := by decide +kernel
theorem dX0_execute_83 : decode cX0_execute 83 = .ok (.iload 5, 2) := by decide +kernel
theorem dX0_execute_85 : decode cX0_execute 85 = .ok (.aload_n 1, 1) := by decide +kernel
theorem dX0_execute_86 : decode cX0_execute 86 = .ok (.aload_n 0, 1) := by decide +kernel
theorem dX0_execute_87 : decode cX0_execute 87 = .ok (.getfield 18, 3) := by decide +kernel
theorem dX0_execute_90 : decode cX0_execute 90 = .ok (.getfield 47, 3) := by decide +kernel
theorem dX0_execute_93 : decode cX0_execute 93 = .ok (.iload 5, 2) := by decide +kernel
theorem dX0_execute_95 : decode cX0_execute 95 = .ok (.aaload, 1) := by decide +kernel
theorem dX0_execute_96 : decode cX0_execute 96 = .ok (.invokevirtual 53, 3) := by decide +kernel
theorem dX0_execute_99 : decode cX0_execute 99 = .ok (.iastore, 1) := by decide +kernel
theorem dX0_execute_100 : decode cX0_execute 100 = .ok (.aload_n 0, 1) := by decide +kernel
theorem dX0_execute_101 : decode cX0_execute 101 = .ok (.getfield 15, 3) := by decide +kernel
theorem dX0_execute_104 : decode cX0_execute 104 = .ok (.iload 5, 2) := by decide +kernel
theorem dX0_execute_106 : decode cX0_execute 106 = .ok (.aload_n 1, 1) := by decide +kernel
theorem dX0_execute_107 : decode cX0_execute 107 = .ok (.aload_n 0, 1) := by decide +kernel
theorem dX0_execute_108 : decode cX0_execute 108 = .ok (.getfield 18, 3) := by decide +kernel
theorem dX0_execute_111 : decode cX0_execute 111 = .ok (.getfield 47, 3) := by decide +kernel
theorem dX0_execute_114 : decode cX0_execute 114 = .ok (.iload 5, 2) := by decide +kernel
theorem dX0_execute_116 : decode cX0_execute 116 = .ok (.aaload, 1) := by decide +kernel
theorem dX0_execute_117 : decode cX0_execute 117 = .ok (.invokevirtual 59, 3) := by decide +kernel
theorem dX0_execute_120 : decode cX0_execute 120 = .ok (.iastore, 1) := by decide +kernel
theorem dX0_execute_121 : decode cX0_execute 121 = .ok (.aload_n 1, 1) := by decide +kernel
theorem dX0_execute_122 : decode cX0_execute 122 = .ok (.aload_n 0, 1) := by decide +kernel
theorem dX0_execute_123 : decode cX0_execute 123 = .ok (.getfield 18, 3) := by decide +kernel
theorem dX0_execute_126 : decode cX0_execute 126 = .ok (.getfield 47, 3) := by decide +kernel
theorem dX0_execute_129 : decode cX0_execute 129 = .ok (.iload 5, 2) := by decide +kernel
theorem dX0_execute_131 : decode cX0_execute 131 = .ok (.aaload, 1) := by decide +kernel
theorem dX0_execute_132 : decode cX0_execute 132 = .ok (.iload 5, 2) := by decide +kernel
theorem dX0_execute_134 : decode cX0_execute 134 = .ok (.invokevirtual 62, 3) := by decide +kernel
theorem dX0_execute_137 : decode cX0_execute 137 = .ok (.istore 6, 2) := by decide +kernel
theorem dX0_execute_139 : decode cX0_execute 139 = .ok (.iinc 5 1, 3) := by decide +kernel
theorem dX0_execute_142 : decode cX0_execute 142 = .ok (.goto (-85), 3) := by decide +kernel
theorem dX0_execute_145 : decode cX0_execute 145 = .ok (.iinc 7 1, 3) := by decide +kernel
theorem dX0_execute_148 : decode cX0_execute 148 = .ok (.goto (-115), 3) := by decide +kernel
theorem dX0_execute_151 : decode cX0_execute 151 = .ok (.aload_n 0, 1) := by decide +kernel
theorem dX0_execute_152 : decode cX0_execute 152 = .ok (.iload 6, 2) := by decide +kernel
theorem dX0_execute_154 : decode cX0_execute 154 = .ok (.invokevirtual 66, 3) := by decide +kernel
theorem dX0_execute_157 : decode cX0_execute 157 = .ok (.ireturn, 1) := by decide +kernel
abbrev rm_X0_execute : Room := { frames := 3, cells := 0, slots := 0, locals := 67 }
theorem w_X0_execute_145 {X : gX} {p1 : Nat} {p2 : Int32} {x3 : Int32} {x4 : Int32} {x5 : Int32} {x6 : Int32} {x7 : Int32} {σ : sg} {r0 : (Int32 × sg)} {r1 : ((Int32 × Int32 × Int32 × sg) ⊕ (Int32 × sg))} (C : gC X cX0_execute 8 RX0 (some .int) rm_X0_execute) (hM1 : isM p1) (hQ : gQ X (qI (XG X) r0.1 r0.2)) (A1 : ∀ b, r1 = .inl b → G X 8 b.2.2.2 33 [(0, .ref (Xd X 154)), (1, .ref (Xd X p1)), (2, .int p2), (3, .int x3), (4, .int x4), (5, .int b.1), (6, .int b.2.1), (7, .int b.2.2.1)] []) (B1 : ∀ b, r1 = .inr b → b = r0) (hf : J_X0_execute_145 p1 p2 x3 x4 x5 x6 x7 σ = some r1) : G X 8 σ 145 [(0, .ref (Xd X 154)), (1, .ref (Xd X p1)), (2, .int p2), (3, .int x3), (4, .int x4), (5, .int x5), (6, .int x6), (7, .int x7)] [] := by
  unfold J_X0_execute_145 at hf
  refine g_iinc C (v := x7 + (1 : Int32)) (lv' := [(7, .int (x7 + (1 : Int32))), (0, .ref (Xd X 154)), (1, .ref (Xd X p1)), (2, .int p2), (3, .int x3), (4, .int x4), (5, .int x5), (6, .int x6)]) 7 dX0_execute_145 rfl rfl (by decide) rfl ?_
  refine g_goto C 33 dX0_execute_148 (by decide) ?_
  refine g_sub [1, 2, 3, 4, 5, 6, 7, 0] rfl ?_
  exact A1 (x5, x6, x7 + (1 : Int32), σ) (Option.some.inj hf).symm
theorem w_X0_execute_57 {X : gX} {p1 : Nat} {p2 : Int32} {x3 : Int32} {x4 : Int32} {x7 : Int32} {x5 : Int32} {x6 : Int32} {σ : sg} {r0 : (Int32 × sg)} {r1 : ((Int32 × Int32 × Int32 × sg) ⊕ (Int32 × sg))} {r2 : ((Int32 × Int32 × sg) ⊕ ((Int32 × Int32 × Int32 × sg) ⊕ (Int32 × sg)))} (C : gC X cX0_execute 8 RX0 (some .int) rm_X0_execute) (hM1 : isM p1) (hQ : gQ X (qI (XG X) r0.1 r0.2)) (A1 : ∀ b, r1 = .inl b → G X 8 b.2.2.2 33 [(0, .ref (Xd X 154)), (1, .ref (Xd X p1)), (2, .int p2), (3, .int x3), (4, .int x4), (5, .int b.1), (6, .int b.2.1), (7, .int b.2.2.1)] []) (B1 : ∀ b, r1 = .inr b → b = r0) (A2 : ∀ b, r2 = .inl b → G X 8 b.2.2 57 [(0, .ref (Xd X 154)), (1, .ref (Xd X p1)), (2, .int p2), (3, .int x3), (4, .int x4), (5, .int b.1), (6, .int b.2.1), (7, .int x7)] []) (B2 : ∀ b, r2 = .inr b → b = r1) (hf : B_X0_execute_57 p1 p2 x3 x4 x7 x5 x6 σ = some r2) : G X 8 σ 57 [(0, .ref (Xd X 154)), (1, .ref (Xd X p1)), (2, .int p2), (3, .int x3), (4, .int x4), (5, .int x5), (6, .int x6), (7, .int x7)] [] := by
  unfold B_X0_execute_57 at hf
  refine g_iload C 5 dX0_execute_57 rfl ?_
  refine g_iload C 4 dX0_execute_59 rfl ?_
  refine g_icmp_ge C 145 hf dX0_execute_61 (by decide) (fun hf => ?_) (fun hf => ?_)
  · obtain ⟨t, h1, hf⟩ := g_bind hf
    exact w_X0_execute_145 C hM1 hQ A1 B1 (h1.trans (congrArg some ((B2 _ (Option.some.inj hf).symm).symm).symm))
  · refine g_aload_n C 0 dX0_execute_64 rfl ?_
    refine g_getr C 0 2 (75) (by decide) sh_154 rfl vc_0 (by decide) inXX0 wfl_245 dX0_execute_65 ?_
    refine g_getrN C 5 6 (141) (by decide) sh_75 rfl vc_5 (by decide) inXX5 wfn_180 dX0_execute_68 ?_
    refine g_iload C 5 dX0_execute_71 rfl ?_
    obtain ⟨v73, h1, hf⟩ := g_bind hf
    refine g_iald C h1 dX0_execute_73 ?_
    clear h1
    refine g_iload C 7 dX0_execute_74 rfl ?_
    refine g_icmp_ne C 145 hf dX0_execute_76 (by decide) (fun hf => ?_) (fun hf => ?_)
    · refine g_aload_n C 0 dX0_execute_79 rfl ?_
      refine g_getr C 0 3 (155) (by decide) sh_154 rfl vc_0 (by decide) inXX0 wfl_246 dX0_execute_80 ?_
      refine g_iload C 5 dX0_execute_83 rfl ?_
      refine g_aload_n C 1 dX0_execute_85 rfl ?_
      refine g_aload_n C 0 dX0_execute_86 rfl ?_
      refine g_getr C 0 0 (1) (by decide) sh_154 rfl vc_0 (by decide) inXX0 wfl_243 dX0_execute_87 ?_
      refine g_getrN C 6 0 (2) (by decide) sh_1 rfl vc_6 (by decide) inXX6 wfn_32 dX0_execute_90 ?_
      refine g_iload C 5 dX0_execute_93 rfl ?_
      obtain ⟨q95, h1, hf⟩ := g_bind hf
      refine g_aald C h1 dX0_execute_95 ?_
      clear h1
      obtain ⟨v96, h1, hf⟩ := g_bind hf
      refine g_callVi C 1 [.ref (Xd X q95)] (c_X4_resultOf (Xl X) (gC_I C) hM1 h1) ⟨wml_631, wim_603, wse_604, win_8, wcd_605⟩ (isM_lt hM1) (g_shM hM1) vc_4 rfl hd_X4_resultOf ⟨rfl, rfl⟩ ⟨Nat.le_of_ble_eq_true rfl, Nat.le_of_ble_eq_true rfl⟩ rfl rfl (Nat.le_of_ble_eq_true rfl) dX0_execute_96 ?_
      clear h1
      obtain ⟨s99, h1, hf⟩ := g_bind hf
      refine g_iast C h1 dX0_execute_99 ?_
      clear h1
      refine g_aload_n C 0 dX0_execute_100 rfl ?_
      refine g_getr C 0 4 (156) (by decide) sh_154 rfl vc_0 (by decide) inXX0 wfl_247 dX0_execute_101 ?_
      refine g_iload C 5 dX0_execute_104 rfl ?_
      refine g_aload_n C 1 dX0_execute_106 rfl ?_
      refine g_aload_n C 0 dX0_execute_107 rfl ?_
      refine g_getr C 0 0 (1) (by decide) sh_154 rfl vc_0 (by decide) inXX0 wfl_243 dX0_execute_108 ?_
      refine g_getrN C 6 0 (2) (by decide) sh_1 rfl vc_6 (by decide) inXX6 wfn_32 dX0_execute_111 ?_
      refine g_iload C 5 dX0_execute_114 rfl ?_
      obtain ⟨q116, h1, hf⟩ := g_bind hf
      refine g_aald C h1 dX0_execute_116 ?_
      clear h1
      obtain ⟨v117, h1, hf⟩ := g_bind hf
      refine g_callVi C 1 [.ref (Xd X q116)] (c_X4_cellOf (Xl X) (gC_I C) hM1 h1) ⟨wml_632, wim_599, wse_600, win_8, wcd_601⟩ (isM_lt hM1) (g_shM hM1) vc_4 rfl hd_X4_cellOf ⟨rfl, rfl⟩ ⟨Nat.le_of_ble_eq_true rfl, Nat.le_of_ble_eq_true rfl⟩ rfl rfl (Nat.le_of_ble_eq_true rfl) dX0_execute_117 ?_
      clear h1
      obtain ⟨s120, h1, hf⟩ := g_bind hf
      refine g_iast C h1 dX0_execute_120 ?_
      clear h1
      refine g_aload_n C 1 dX0_execute_121 rfl ?_
      refine g_aload_n C 0 dX0_execute_122 rfl ?_
      refine g_getr C 0 0 (1) (by decide) sh_154 rfl vc_0 (by decide) inXX0 wfl_243 dX0_execute_123 ?_
      refine g_getrN C 6 0 (2) (by decide) sh_1 rfl vc_6 (by decide) inXX6 wfn_32 dX0_execute_126 ?_
      refine g_iload C 5 dX0_execute_129 rfl ?_
      obtain ⟨q131, h1, hf⟩ := g_bind hf
      refine g_aald C h1 dX0_execute_131 ?_
      clear h1
      refine g_iload C 5 dX0_execute_132 rfl ?_
      obtain ⟨v134, h1, hf⟩ := g_bind hf
      refine g_callVi C 2 [.ref (Xd X q131), .int x5] (c_X4_successor (Xl X) (gC_I C) hM1 h1) ⟨wml_633, wim_595, wse_596, win_8, wcd_597⟩ (isM_lt hM1) (g_shM hM1) vc_4 rfl hd_X4_successor ⟨rfl, rfl⟩ ⟨Nat.le_of_ble_eq_true rfl, Nat.le_of_ble_eq_true rfl⟩ rfl rfl (Nat.le_of_ble_eq_true rfl) dX0_execute_134 ?_
      clear h1
      refine g_istore C (lv' := [(6, .int v134), (0, .ref (Xd X 154)), (1, .ref (Xd X p1)), (2, .int p2), (3, .int x3), (4, .int x4), (5, .int x5), (7, .int x7)]) dX0_execute_137 (by decide) rfl ?_
      refine g_iinc C (v := x5 + (1 : Int32)) (lv' := [(5, .int (x5 + (1 : Int32))), (6, .int v134), (0, .ref (Xd X 154)), (1, .ref (Xd X p1)), (2, .int p2), (3, .int x3), (4, .int x4), (7, .int x7)]) 6 dX0_execute_139 rfl rfl (by decide) rfl ?_
      refine g_goto C 57 dX0_execute_142 (by decide) ?_
      refine g_sub [2, 3, 4, 5, 6, 0, 1, 7] rfl ?_
      exact A2 (x5 + (1 : Int32), v134, s120) (Option.some.inj hf).symm
    · obtain ⟨t, h1, hf⟩ := g_bind hf
      exact w_X0_execute_145 C hM1 hQ A1 B1 (h1.trans (congrArg some ((B2 _ (Option.some.inj hf).symm).symm).symm))
theorem wl_X0_execute_57 {X : gX} {p1 : Nat} {p2 : Int32} {x3 : Int32} {x4 : Int32} {x7 : Int32} {r0 : (Int32 × sg)} {r1 : ((Int32 × Int32 × Int32 × sg) ⊕ (Int32 × sg))} (C : gC X cX0_execute 8 RX0 (some .int) rm_X0_execute) (hM1 : isM p1) (hQ : gQ X (qI (XG X) r0.1 r0.2)) (A1 : ∀ b, r1 = .inl b → G X 8 b.2.2.2 33 [(0, .ref (Xd X 154)), (1, .ref (Xd X p1)), (2, .int p2), (3, .int x3), (4, .int x4), (5, .int b.1), (6, .int b.2.1), (7, .int b.2.2.1)] []) (B1 : ∀ b, r1 = .inr b → b = r0) {n : Nat} {a : (Int32 × Int32 × sg)} (hf : L_X0_execute_57 p1 p2 x3 x4 x7 n a = some r1) : G X 8 a.2.2 57 [(0, .ref (Xd X 154)), (1, .ref (Xd X p1)), (2, .int p2), (3, .int x3), (4, .int x4), (5, .int a.1), (6, .int a.2.1), (7, .int x7)] [] := by
  unfold L_X0_execute_57 at hf
  have key := g_loop_ind (res := r1) (f := fun a => B_X0_execute_57 p1 p2 x3 x4 x7 a.1 a.2.1 a.2.2) (P := fun a => G X 8 a.2.2 57 [(0, .ref (Xd X 154)), (1, .ref (Xd X p1)), (2, .int p2), (3, .int x3), (4, .int x4), (5, .int a.1), (6, .int a.2.1), (7, .int x7)] []) (fun a r2 h1 k1 k2 => w_X0_execute_57 (x5 := a.1) (x6 := a.2.1) (σ := a.2.2) C hM1 hQ A1 B1 k1 k2 h1)
  exact key n a hf
theorem w_X0_execute_33 {X : gX} {p1 : Nat} {p2 : Int32} {x3 : Int32} {x4 : Int32} {x5 : Int32} {x6 : Int32} {x7 : Int32} {σ : sg} {r0 : (Int32 × sg)} {r1 : ((Int32 × Int32 × Int32 × sg) ⊕ (Int32 × sg))} (C : gC X cX0_execute 8 RX0 (some .int) rm_X0_execute) (hM1 : isM p1) (hQ : gQ X (qI (XG X) r0.1 r0.2)) (A1 : ∀ b, r1 = .inl b → G X 8 b.2.2.2 33 [(0, .ref (Xd X 154)), (1, .ref (Xd X p1)), (2, .int p2), (3, .int x3), (4, .int x4), (5, .int b.1), (6, .int b.2.1), (7, .int b.2.2.1)] []) (B1 : ∀ b, r1 = .inr b → b = r0) (hf : B_X0_execute_33 p1 p2 x3 x4 x5 x6 x7 σ = some r1) : G X 8 σ 33 [(0, .ref (Xd X 154)), (1, .ref (Xd X p1)), (2, .int p2), (3, .int x3), (4, .int x4), (5, .int x5), (6, .int x6), (7, .int x7)] [] := by
  unfold B_X0_execute_33 at hf
  refine g_iload C 7 dX0_execute_33 rfl ?_
  refine g_aload_n C 0 dX0_execute_35 rfl ?_
  refine g_getr C 0 2 (75) (by decide) sh_154 rfl vc_0 (by decide) inXX0 wfl_245 dX0_execute_36 ?_
  refine g_getrN C 5 7 (142) (by decide) sh_75 rfl vc_5 (by decide) inXX5 wfn_183 dX0_execute_39 ?_
  refine g_iload_n C 2 dX0_execute_42 rfl ?_
  obtain ⟨v43, h1, hf⟩ := g_bind hf
  refine g_iald C h1 dX0_execute_43 ?_
  clear h1
  refine g_icmp_gt C 151 hf dX0_execute_44 (by decide) (fun hf => ?_) (fun hf => ?_)
  · refine g_aload_n C 0 dX0_execute_151 rfl ?_
    refine g_iload C 6 dX0_execute_152 rfl ?_
    obtain ⟨v154, h1, hf⟩ := g_bind hf
    refine g_callVi C 1 [.int x6] (c_X0_blockAt (Xl X) (gC_I C)  h1) ⟨wml_634, wim_636, wsp_11, win_9, wcd_637⟩ (by decide) sh_154 vc_0 rfl hd_X0_blockAt ⟨rfl, rfl⟩ ⟨Nat.le_of_ble_eq_true rfl, Nat.le_of_ble_eq_true rfl⟩ rfl rfl (Nat.le_of_ble_eq_true rfl) dX0_execute_154 ?_
    clear h1
    have e0 : r0 = (v154, σ) := (B1 _ (Option.some.inj hf).symm).symm
    exact g_iret C rfl hQ (by rw [e0]) rfl dX0_execute_157
  · refine g_aload_n C 0 dX0_execute_47 rfl ?_
    refine g_aload_n C 1 dX0_execute_48 rfl ?_
    refine g_iload_n C 3 dX0_execute_49 rfl ?_
    refine g_iload C 5 dX0_execute_50 rfl ?_
    refine g_iload C 7 dX0_execute_52 rfl ?_
    obtain ⟨s54, h1, hf⟩ := g_bind hf
    refine g_callVv C 4 [.ref (Xd X p1), .int x3, .int x5, .int x7] (c_X0_deliver (Xl X) (gC_I C) hM1 h1) ⟨wml_625, wim_627, wsp_10, win_9, wcd_628⟩ (by decide) sh_154 vc_0 rfl hd_X0_deliver ⟨rfl, rfl⟩ ⟨Nat.le_of_ble_eq_true rfl, Nat.le_of_ble_eq_true rfl⟩ rfl rfl (Nat.le_of_ble_eq_true rfl) dX0_execute_54 ?_
    clear h1
    exact wl_X0_execute_57 (a := (x5, x6, s54)) C hM1 hQ A1 B1 hf
theorem wl_X0_execute_33 {X : gX} {p1 : Nat} {p2 : Int32} {x3 : Int32} {x4 : Int32} {r0 : (Int32 × sg)} (C : gC X cX0_execute 8 RX0 (some .int) rm_X0_execute) (hM1 : isM p1) (hQ : gQ X (qI (XG X) r0.1 r0.2))  {n : Nat} {a : (Int32 × Int32 × Int32 × sg)} (hf : L_X0_execute_33 p1 p2 x3 x4 n a = some r0) : G X 8 a.2.2.2 33 [(0, .ref (Xd X 154)), (1, .ref (Xd X p1)), (2, .int p2), (3, .int x3), (4, .int x4), (5, .int a.1), (6, .int a.2.1), (7, .int a.2.2.1)] [] := by
  unfold L_X0_execute_33 at hf
  have key := g_loop_ind (res := r0) (f := fun a => B_X0_execute_33 p1 p2 x3 x4 a.1 a.2.1 a.2.2.1 a.2.2.2) (P := fun a => G X 8 a.2.2.2 33 [(0, .ref (Xd X 154)), (1, .ref (Xd X p1)), (2, .int p2), (3, .int x3), (4, .int x4), (5, .int a.1), (6, .int a.2.1), (7, .int a.2.2.1)] []) (fun a r1 h1 k1 k2 => w_X0_execute_33 (x5 := a.1) (x6 := a.2.1) (x7 := a.2.2.1) (σ := a.2.2.2) C hM1 hQ  k1 k2 h1)
  exact key n a hf
theorem w_X0_execute_e {X : gX} {σ : sg} {p1 : Nat} {p2 : Int32} {r0 : (Int32 × sg)} (C : gC X cX0_execute 8 RX0 (some .int) rm_X0_execute) (hM1 : isM p1) (hQ : gQ X (qI (XG X) r0.1 r0.2)) (hf : f_X0_execute σ p1 p2 = some r0) : G X 8 σ 0 [(0, .ref (Xd X 154)), (1, .ref (Xd X p1)), (2, .int p2)] [] := by
  unfold f_X0_execute at hf
  refine g_aload_n C 0 dX0_execute_0 rfl ?_
  refine g_getr C 0 1 (57) (by decide) sh_154 rfl vc_0 (by decide) inXX0 wfl_244 dX0_execute_1 ?_
  refine g_getrN C 1 0 (58) (by decide) sh_57 rfl vc_1 (by decide) inXX1 wfn_75 dX0_execute_4 ?_
  refine g_iload_n C 2 dX0_execute_7 rfl ?_
  obtain ⟨v8, h1, hf⟩ := g_bind hf
  refine g_iald C h1 dX0_execute_8 ?_
  clear h1
  refine g_istore_n C (lv' := [(3, .int v8), (0, .ref (Xd X 154)), (1, .ref (Xd X p1)), (2, .int p2)]) dX0_execute_9 (by decide) rfl ?_
  refine g_aload_n C 1 dX0_execute_10 rfl ?_
  refine g_getr C 0 1 (57) (by decide) sh_154 rfl vc_0 (by decide) inXX0 wfl_244 dX0_execute_11 ?_
  refine g_getrN C 1 0 (58) (by decide) sh_57 rfl vc_1 (by decide) inXX1 wfn_75 dX0_execute_14 ?_
  refine g_iload_n C 3 dX0_execute_17 rfl ?_
  refine g_iconst C (v := 1) dX0_execute_18 rfl ?_
  refine g_iadd C dX0_execute_19 ?_
  obtain ⟨v20, h1, hf⟩ := g_bind hf
  refine g_iald C h1 dX0_execute_20 ?_
  clear h1
  refine g_istore C (lv' := [(4, .int v20), (3, .int v8), (0, .ref (Xd X 154)), (1, .ref (Xd X p1)), (2, .int p2)]) dX0_execute_21 (by decide) rfl ?_
  refine g_iload_n C 1 dX0_execute_23 rfl ?_
  refine g_istore C (lv' := [(5, .int v8), (4, .int v20), (3, .int v8), (0, .ref (Xd X 154)), (1, .ref (Xd X p1)), (2, .int p2)]) dX0_execute_24 (by decide) rfl ?_
  refine g_iload C 1 dX0_execute_26 rfl ?_
  refine g_istore C (lv' := [(6, .int v20), (5, .int v8), (4, .int v20), (3, .int v8), (0, .ref (Xd X 154)), (1, .ref (Xd X p1)), (2, .int p2)]) dX0_execute_28 (by decide) rfl ?_
  refine g_iconst C (v := 0) dX0_execute_30 rfl ?_
  refine g_istore C (lv' := [(7, .int (0 : Int32)), (6, .int v20), (5, .int v8), (4, .int v20), (3, .int v8), (0, .ref (Xd X 154)), (1, .ref (Xd X p1)), (2, .int p2)]) dX0_execute_31 (by decide) rfl ?_
  refine g_sub [5, 6, 7, 4, 3, 2, 1, 0] rfl ?_
  exact wl_X0_execute_33 (a := (v8, v20, (0 : Int32), σ)) C hM1 hQ  hf
theorem c_X0_execute (l : Launch) {Gw : gW} (hI : g_I Gw) {σ : sg} {p1 : Nat} {p2 : Int32} {r : (Int32 × sg)} (hM1 : isM p1) (hf : f_X0_execute σ p1 p2 = some r) : gM l Gw yX0_execute cX0_execute 8 (some .int) rm_X0_execute [.ref (Gw.2.2 154), .ref (Gw.2.2 p1), .int p2] σ (qI (Gw) r.1 r.2) := by
  refine g_met hI (by decide) (Nat.le_of_ble_eq_true rfl) (fun X h1 h2 C hQ => ?_)
  subst h1; subst h2
  exact w_X0_execute_e C hM1 hQ hf
theorem dX1_has_0 : decode cX1_has 0 = .ok (.iload_n 1, 1) := by decide +kernel
theorem dX1_has_1 : decode cX1_has 1 = .ok (.ifCond .lt 15, 3) := by decide +kernel
theorem dX1_has_4 : decode cX1_has 4 = .ok (.iload_n 1, 1) := by decide +kernel
theorem dX1_has_5 : decode cX1_has 5 = .ok (.aload_n 0, 1) := by decide +kernel
theorem dX1_has_6 : decode cX1_has 6 = .ok (.getfield 26, 3) := by decide +kernel
theorem dX1_has_9 : decode cX1_has 9 = .ok (.if_icmp .ge 7, 3) := by decide +kernel
theorem dX1_has_12 : decode cX1_has 12 = .ok (.iconst 1, 1) := by decide +kernel
theorem dX1_has_13 : decode cX1_has 13 = .ok (.goto 4, 3) := by decide +kernel
theorem dX1_has_16 : decode cX1_has 16 = .ok (.iconst 0, 1) := by decide +kernel
theorem dX1_has_17 : decode cX1_has 17 = .ok (.ireturn, 1) := by decide +kernel
abbrev rm_X1_has : Room := { frames := 0, cells := 0, slots := 0, locals := 0 }
theorem w_X1_has_e {X : gX} {σ : sg} {p1 : Int32} {r0 : Int32} (C : gC X cX1_has 2 RX1 (some .boolean) rm_X1_has)  (hQ : gQ X (qI (XG X) r0 σ)) (hf : f_X1_has σ p1 = some r0) : G X 2 σ 0 [(0, .ref (Xd X 57)), (1, .int p1)] [] := by
  unfold f_X1_has at hf
  refine g_iload_n C 1 dX1_has_0 rfl ?_
  refine g_if_lt C 16 hf dX1_has_1 (by decide) (fun hf => ?_) (fun hf => ?_)
  · refine g_iconst C (v := 0) dX1_has_16 rfl ?_
    have e0 : r0 = (0 : Int32) := (Option.some.inj hf).symm
    exact g_iret C rfl hQ (by rw [e0]) rfl dX1_has_17
  · refine g_iload_n C 1 dX1_has_4 rfl ?_
    refine g_aload_n C 0 dX1_has_5 rfl ?_
    refine g_geti C 1 3 (by decide) sh_57 rfl vc_1 (by decide) inXX1 wfl_81 dX1_has_6 ?_
    refine g_icmp_ge C 16 hf dX1_has_9 (by decide) (fun hf => ?_) (fun hf => ?_)
    · refine g_iconst C (v := 0) dX1_has_16 rfl ?_
      have e0 : r0 = (0 : Int32) := (Option.some.inj hf).symm
      exact g_iret C rfl hQ (by rw [e0]) rfl dX1_has_17
    · refine g_iconst C (v := 1) dX1_has_12 rfl ?_
      refine g_goto C 17 dX1_has_13 (by decide) ?_
      have e0 : r0 = (1 : Int32) := (Option.some.inj hf).symm
      exact g_iret C rfl hQ (by rw [e0]) rfl dX1_has_17
theorem c_X1_has (l : Launch) {Gw : gW} (hI : g_I Gw) {σ : sg} {p1 : Int32} {r : Int32}  (hf : f_X1_has σ p1 = some r) : gM l Gw yX1_has cX1_has 2 (some .boolean) rm_X1_has [.ref (Gw.2.2 57), .int p1] σ (qI (Gw) r σ) := by
  refine g_met hI (by decide) (Nat.le_of_ble_eq_true rfl) (fun X h1 h2 C hQ => ?_)
  subst h1; subst h2
  exact w_X1_has_e C  hQ hf
theorem dX6_operationOf_0 : decode cX6_operationOf 0 = .ok (.aload_n 0, 1) := by decide +kernel
theorem dX6_operationOf_1 : decode cX6_operationOf 1 = .ok (.getfield 11, 3) := by decide +kernel
theorem dX6_operationOf_4 : decode cX6_operationOf 4 = .ok (.iload_n 1, 1) := by decide +kernel
theorem dX6_operationOf_5 : decode cX6_operationOf 5 = .ok (.aaload, 1) := by decide +kernel
theorem dX6_operationOf_6 : decode cX6_operationOf 6 = .ok (.iconst 0, 1) := by decide +kernel
theorem dX6_operationOf_7 : decode cX6_operationOf 7 = .ok (.iaload, 1) := by decide +kernel
theorem dX6_operationOf_8 : decode cX6_operationOf 8 = .ok (.ireturn, 1) := by decide +kernel
abbrev rm_X6_operationOf : Room := { frames := 0, cells := 0, slots := 0, locals := 0 }
theorem w_X6_operationOf_e {X : gX} {σ : sg} {p1 : Int32} {r0 : Int32} (C : gC X cX6_operationOf 2 RX6 (some .int) rm_X6_operationOf)  (hQ : gQ X (qI (XG X) r0 σ)) (hf : f_X6_operationOf σ p1 = some r0) : G X 2 σ 0 [(0, .ref (Xd X 1)), (1, .int p1)] [] := by
  unfold f_X6_operationOf at hf
  refine g_aload_n C 0 dX6_operationOf_0 rfl ?_
  refine g_getr C 6 0 (2) (by decide) sh_1 rfl vc_6 (by decide) inXX6 wfl_30 dX6_operationOf_1 ?_
  refine g_iload_n C 1 dX6_operationOf_4 rfl ?_
  obtain ⟨q5, h1, hf⟩ := g_bind hf
  refine g_aald C h1 dX6_operationOf_5 ?_
  clear h1
  refine g_iconst C (v := 0) dX6_operationOf_6 rfl ?_
  obtain ⟨v7, h1, hf⟩ := g_bind hf
  refine g_iald C h1 dX6_operationOf_7 ?_
  clear h1
  have e0 : r0 = v7 := (Option.some.inj hf).symm
  exact g_iret C rfl hQ (by rw [e0]) rfl dX6_operationOf_8
theorem c_X6_operationOf (l : Launch) {Gw : gW} (hI : g_I Gw) {σ : sg} {p1 : Int32} {r : Int32}  (hf : f_X6_operationOf σ p1 = some r) : gM l Gw yX6_operationOf cX6_operationOf 2 (some .int) rm_X6_operationOf [.ref (Gw.2.2 1), .int p1] σ (qI (Gw) r σ) := by
  refine g_met hI (by decide) (Nat.le_of_ble_eq_true rfl) (fun X h1 h2 C hQ => ?_)
  subst h1; subst h2
  exact w_X6_operationOf_e C  hQ hf
theorem dX6_hasTarget_0 : decode cX6_hasTarget 0 = .ok (.aload_n 0, 1) := by decide +kernel
theorem dX6_hasTarget_1 : decode cX6_hasTarget 1 = .ok (.iload_n 1, 1) := by decide +kernel
theorem dX6_hasTarget_2 : decode cX6_hasTarget 2 = .ok (.invokevirtual 30, 3) := by decide +kernel
theorem dX6_hasTarget_5 : decode cX6_hasTarget 5 = .ok (.istore_n 2, 1) := by decide +kernel
theorem dX6_hasTarget_6 : decode cX6_hasTarget 6 = .ok (.iload_n 2, 1) := by decide +kernel
theorem dX6_hasTarget_7 : decode cX6_hasTarget 7 = .ok (.bipush 10, 2) := by decide +kernel
theorem dX6_hasTarget_9 : decode cX6_hasTarget 9 = .ok (.if_icmp .eq 9, 3) := by decide +kernel
theorem dX6_hasTarget_12 : decode cX6_hasTarget 12 = .ok (.iload_n 2, 1) := by decide +kernel
theorem dX6_hasTarget_13 : decode cX6_hasTarget 13 = .ok (.bipush 11, 2) := by decide +kernel
theorem dX6_hasTarget_15 : decode cX6_hasTarget 15 = .ok (.if_icmp .ne 7, 3) := by decide +kernel
theorem dX6_hasTarget_18 : decode cX6_hasTarget 18 = .ok (.iconst 1, 1) := by decide +kernel
theorem dX6_hasTarget_19 : decode cX6_hasTarget 19 = .ok (.goto 4, 3) := by decide +kernel
theorem dX6_hasTarget_22 : decode cX6_hasTarget 22 = .ok (.iconst 0, 1) := by decide +kernel
theorem dX6_hasTarget_23 : decode cX6_hasTarget 23 = .ok (.ireturn, 1) := by decide +kernel
abbrev rm_X6_hasTarget : Room := { frames := 1, cells := 0, slots := 0, locals := 21 }
theorem w_X6_hasTarget_18 {X : gX} {σ : sg} {r0 : Int32} (C : gC X cX6_hasTarget 3 RX6 (some .boolean) rm_X6_hasTarget)  (hQ : gQ X (qI (XG X) r0 σ))  (hf : J_X6_hasTarget_18 σ = some r0) : G X 3 σ 18 [] [] := by
  unfold J_X6_hasTarget_18 at hf
  refine g_iconst C (v := 1) dX6_hasTarget_18 rfl ?_
  refine g_goto C 23 dX6_hasTarget_19 (by decide) ?_
  have e0 : r0 = (1 : Int32) := (Option.some.inj hf).symm
  exact g_iret C rfl hQ (by rw [e0]) rfl dX6_hasTarget_23
theorem w_X6_hasTarget_e {X : gX} {σ : sg} {p1 : Int32} {r0 : Int32} (C : gC X cX6_hasTarget 3 RX6 (some .boolean) rm_X6_hasTarget)  (hQ : gQ X (qI (XG X) r0 σ)) (hf : f_X6_hasTarget σ p1 = some r0) : G X 3 σ 0 [(0, .ref (Xd X 1)), (1, .int p1)] [] := by
  unfold f_X6_hasTarget at hf
  refine g_aload_n C 0 dX6_hasTarget_0 rfl ?_
  refine g_iload_n C 1 dX6_hasTarget_1 rfl ?_
  obtain ⟨v2, h1, hf⟩ := g_bind hf
  refine g_callVi C 1 [.int p1] (c_X6_operationOf (Xl X) (gC_I C)  h1) ⟨wml_331, wim_332, wse_333, win_2, wcd_334⟩ (by decide) sh_1 vc_6 rfl hd_X6_operationOf ⟨rfl, rfl⟩ ⟨Nat.le_of_ble_eq_true rfl, Nat.le_of_ble_eq_true rfl⟩ rfl rfl (Nat.le_of_ble_eq_true rfl) dX6_hasTarget_2 ?_
  clear h1
  refine g_istore_n C (lv' := [(2, .int v2), (0, .ref (Xd X 1)), (1, .int p1)]) dX6_hasTarget_5 (by decide) rfl ?_
  refine g_iload_n C 0 dX6_hasTarget_6 rfl ?_
  refine g_bipush C (v := 10) dX6_hasTarget_7 rfl ?_
  refine g_icmp_eq C 18 hf dX6_hasTarget_9 (by decide) (fun hf => ?_) (fun hf => ?_)
  · refine g_sub [] rfl ?_
    exact w_X6_hasTarget_18 C  hQ  hf
  · refine g_iload_n C 0 dX6_hasTarget_12 rfl ?_
    refine g_bipush C (v := 11) dX6_hasTarget_13 rfl ?_
    refine g_icmp_ne C 22 hf dX6_hasTarget_15 (by decide) (fun hf => ?_) (fun hf => ?_)
    · refine g_sub [] rfl ?_
      exact w_X6_hasTarget_18 C  hQ  hf
    · refine g_iconst C (v := 0) dX6_hasTarget_22 rfl ?_
      have e0 : r0 = (0 : Int32) := (Option.some.inj hf).symm
      exact g_iret C rfl hQ (by rw [e0]) rfl dX6_hasTarget_23
theorem c_X6_hasTarget (l : Launch) {Gw : gW} (hI : g_I Gw) {σ : sg} {p1 : Int32} {r : Int32}  (hf : f_X6_hasTarget σ p1 = some r) : gM l Gw yX6_hasTarget cX6_hasTarget 3 (some .boolean) rm_X6_hasTarget [.ref (Gw.2.2 1), .int p1] σ (qI (Gw) r σ) := by
  refine g_met hI (by decide) (Nat.le_of_ble_eq_true rfl) (fun X h1 h2 C hQ => ?_)
  subst h1; subst h2
  exact w_X6_hasTarget_e C  hQ hf
theorem dX6_targetOf_0 : decode cX6_targetOf 0 = .ok (.aload_n 0, 1) := by decide +kernel
theorem dX6_targetOf_1 : decode cX6_targetOf 1 = .ok (.getfield 11, 3) := by decide +kernel
theorem dX6_targetOf_4 : decode cX6_targetOf 4 = .ok (.iload_n 1, 1) := by decide +kernel
theorem dX6_targetOf_5 : decode cX6_targetOf 5 = .ok (.aaload, 1) := by decide +kernel
theorem dX6_targetOf_6 : decode cX6_targetOf 6 = .ok (.iconst 2, 1) := by decide +kernel
theorem dX6_targetOf_7 : decode cX6_targetOf 7 = .ok (.iaload, 1) := by decide +kernel
theorem dX6_targetOf_8 : decode cX6_targetOf 8 = .ok (.ireturn, 1) := by decide +kernel
abbrev rm_X6_targetOf : Room := { frames := 0, cells := 0, slots := 0, locals := 0 }
theorem w_X6_targetOf_e {X : gX} {σ : sg} {p1 : Int32} {r0 : Int32} (C : gC X cX6_targetOf 2 RX6 (some .int) rm_X6_targetOf)  (hQ : gQ X (qI (XG X) r0 σ)) (hf : f_X6_targetOf σ p1 = some r0) : G X 2 σ 0 [(0, .ref (Xd X 1)), (1, .int p1)] [] := by
  unfold f_X6_targetOf at hf
  refine g_aload_n C 0 dX6_targetOf_0 rfl ?_
  refine g_getr C 6 0 (2) (by decide) sh_1 rfl vc_6 (by decide) inXX6 wfl_30 dX6_targetOf_1 ?_
  refine g_iload_n C 1 dX6_targetOf_4 rfl ?_
  obtain ⟨q5, h1, hf⟩ := g_bind hf
  refine g_aald C h1 dX6_targetOf_5 ?_
  clear h1
  refine g_iconst C (v := 2) dX6_targetOf_6 rfl ?_
  obtain ⟨v7, h1, hf⟩ := g_bind hf
  refine g_iald C h1 dX6_targetOf_7 ?_
  clear h1
  have e0 : r0 = v7 := (Option.some.inj hf).symm
  exact g_iret C rfl hQ (by rw [e0]) rfl dX6_targetOf_8
theorem c_X6_targetOf (l : Launch) {Gw : gW} (hI : g_I Gw) {σ : sg} {p1 : Int32} {r : Int32}  (hf : f_X6_targetOf σ p1 = some r) : gM l Gw yX6_targetOf cX6_targetOf 2 (some .int) rm_X6_targetOf [.ref (Gw.2.2 1), .int p1] σ (qI (Gw) r σ) := by
  refine g_met hI (by decide) (Nat.le_of_ble_eq_true rfl) (fun X h1 h2 C hQ => ?_)
  subst h1; subst h2
  exact w_X6_targetOf_e C  hQ hf
theorem dX1_hasAllTargets_0 : decode cX1_hasAllTargets 0 = .ok (.iconst 0, 1) := by decide +kernel
theorem dX1_hasAllTargets_1 : decode cX1_hasAllTargets 1 = .ok (.istore_n 1, 1) := by decide +kernel
theorem dX1_hasAllTargets_2 : decode cX1_hasAllTargets 2 = .ok (.iload_n 1, 1) := by decide +kernel
theorem dX1_hasAllTargets_3 : decode cX1_hasAllTargets 3 = .ok (.aload_n 0, 1) := by decide +kernel
theorem dX1_hasAllTargets_4 : decode cX1_hasAllTargets 4 = .ok (.getfield 38, 3) := by decide +kernel
theorem dX1_hasAllTargets_7 : decode cX1_hasAllTargets 7 = .ok (.if_icmp .ge 31, 3) := by decide +kernel
theorem dX1_hasAllTargets_10 : decode cX1_hasAllTargets 10 = .ok (.aload_n 0, 1) := by decide +kernel
theorem dX1_hasAllTargets_11 : decode cX1_hasAllTargets 11 = .ok (.iload_n 1, 1) := by decide +kernel
theorem dX1_hasAllTargets_12 : decode cX1_hasAllTargets 12 = .ok (.invokevirtual 45, 3) := by decide +kernel
theorem dX1_hasAllTargets_15 : decode cX1_hasAllTargets 15 = .ok (.ifCond .eq 17, 3) := by decide +kernel
theorem dX1_hasAllTargets_18 : decode cX1_hasAllTargets 18 = .ok (.aload_n 0, 1) := by decide +kernel
theorem dX1_hasAllTargets_19 : decode cX1_hasAllTargets 19 = .ok (.aload_n 0, 1) := by decide +kernel
theorem dX1_hasAllTargets_20 : decode cX1_hasAllTargets 20 = .ok (.iload_n 1, 1) := by decide +kernel
theorem dX1_hasAllTargets_21 : decode cX1_hasAllTargets 21 = .ok (.invokevirtual 49, 3) := by decide +kernel
theorem dX1_hasAllTargets_24 : decode cX1_hasAllTargets 24 = .ok (.invokevirtual 53, 3) := by decide +kernel
theorem dX1_hasAllTargets_27 : decode cX1_hasAllTargets 27 = .ok (.ifCond .ne 5, 3) := by decide +kernel
theorem dX1_hasAllTargets_30 : decode cX1_hasAllTargets 30 = .ok (.iconst 0, 1) := by decide +kernel
theorem dX1_hasAllTargets_31 : decode cX1_hasAllTargets 31 = .ok (.ireturn, 1) := by decide +kernel
theorem dX1_hasAllTargets_32 : decode cX1_hasAllTargets 32 = .ok (.iinc 1 1, 3) := by decide +kernel
theorem dX1_hasAllTargets_35 : decode cX1_hasAllTargets 35 = .ok (.goto (-33), 3) := by decide +kernel
theorem dX1_hasAllTargets_38 : decode cX1_hasAllTargets 38 = .ok (.iconst 1, 1) := by decide +kernel
theorem dX1_hasAllTargets_39 : decode cX1_hasAllTargets 39 = .ok (.ireturn, 1) := by decide +kernel
abbrev rm_X1_hasAllTargets : Room := { frames := 2, cells := 0, slots := 0, locals := 43 }
theorem w_X1_hasAllTargets_32 {X : gX} {σ : sg} {x1 : Int32} {r0 : Int32} {r1 : (Int32 ⊕ Int32)} (C : gC X cX1_hasAllTargets 2 RX1 (some .boolean) rm_X1_hasAllTargets)  (hQ : gQ X (qI (XG X) r0 σ)) (A1 : ∀ b, r1 = .inl b → G X 2 σ 2 [(0, .ref (Xd X 1)), (1, .int b)] []) (B1 : ∀ b, r1 = .inr b → b = r0) (hf : J_X1_hasAllTargets_32 σ x1 = some r1) : G X 2 σ 32 [(0, .ref (Xd X 1)), (1, .int x1)] [] := by
  unfold J_X1_hasAllTargets_32 at hf
  refine g_iinc C (v := x1 + (1 : Int32)) (lv' := [(1, .int (x1 + (1 : Int32))), (0, .ref (Xd X 1))]) 1 dX1_hasAllTargets_32 rfl rfl (by decide) rfl ?_
  refine g_goto C 2 dX1_hasAllTargets_35 (by decide) ?_
  refine g_sub [1, 0] rfl ?_
  exact A1 (x1 + (1 : Int32)) (Option.some.inj hf).symm
theorem w_X1_hasAllTargets_2 {X : gX} {σ : sg} {x1 : Int32} {r0 : Int32} {r1 : (Int32 ⊕ Int32)} (C : gC X cX1_hasAllTargets 2 RX1 (some .boolean) rm_X1_hasAllTargets)  (hQ : gQ X (qI (XG X) r0 σ)) (A1 : ∀ b, r1 = .inl b → G X 2 σ 2 [(0, .ref (Xd X 1)), (1, .int b)] []) (B1 : ∀ b, r1 = .inr b → b = r0) (hf : B_X1_hasAllTargets_2 σ x1 = some r1) : G X 2 σ 2 [(0, .ref (Xd X 1)), (1, .int x1)] [] := by
  unfold B_X1_hasAllTargets_2 at hf
  refine g_iload_n C 1 dX1_hasAllTargets_2 rfl ?_
  refine g_aload_n C 0 dX1_hasAllTargets_3 rfl ?_
  refine g_getiN C 6 1 (by decide) sh_1 rfl vc_6 (by decide) inXX6 wfn_36 dX1_hasAllTargets_4 ?_
  refine g_icmp_ge C 38 hf dX1_hasAllTargets_7 (by decide) (fun hf => ?_) (fun hf => ?_)
  · refine g_iconst C (v := 1) dX1_hasAllTargets_38 rfl ?_
    have e0 : r0 = (1 : Int32) := (B1 _ (Option.some.inj hf).symm).symm
    exact g_iret C rfl hQ (by rw [e0]) rfl dX1_hasAllTargets_39
  · refine g_aload_n C 0 dX1_hasAllTargets_10 rfl ?_
    refine g_iload_n C 1 dX1_hasAllTargets_11 rfl ?_
    obtain ⟨v12, h1, hf⟩ := g_bind hf
    refine g_callVi C 1 [.int x1] (c_X6_hasTarget (Xl X) (gC_I C)  h1) ⟨wml_327, wim_328, wse_329, win_2, wcd_330⟩ (by decide) sh_1 vc_6 rfl hd_X6_hasTarget ⟨rfl, rfl⟩ ⟨Nat.le_of_ble_eq_true rfl, Nat.le_of_ble_eq_true rfl⟩ rfl rfl (Nat.le_of_ble_eq_true rfl) dX1_hasAllTargets_12 ?_
    clear h1
    refine g_if_eq C 32 hf dX1_hasAllTargets_15 (by decide) (fun hf => ?_) (fun hf => ?_)
    · exact w_X1_hasAllTargets_32 C  hQ A1 B1 hf
    · refine g_aload_n C 0 dX1_hasAllTargets_18 rfl ?_
      refine g_aload_n C 0 dX1_hasAllTargets_19 rfl ?_
      refine g_iload_n C 1 dX1_hasAllTargets_20 rfl ?_
      obtain ⟨v21, h1, hf⟩ := g_bind hf
      refine g_callVi C 1 [.int x1] (c_X6_targetOf (Xl X) (gC_I C)  h1) ⟨wml_335, wim_336, wse_337, win_2, wcd_338⟩ (by decide) sh_1 vc_6 rfl hd_X6_targetOf ⟨rfl, rfl⟩ ⟨Nat.le_of_ble_eq_true rfl, Nat.le_of_ble_eq_true rfl⟩ rfl rfl (Nat.le_of_ble_eq_true rfl) dX1_hasAllTargets_21 ?_
      clear h1
      obtain ⟨v24, h1, hf⟩ := g_bind hf
      refine g_callVi C 1 [.int v21] (c_X6_has (Xl X) (gC_I C)  h1) ⟨wml_339, wim_340, wse_341, win_2, wcd_342⟩ (by decide) sh_1 vc_6 rfl hd_X6_has ⟨rfl, rfl⟩ ⟨Nat.le_of_ble_eq_true rfl, Nat.le_of_ble_eq_true rfl⟩ rfl rfl (Nat.le_of_ble_eq_true rfl) dX1_hasAllTargets_24 ?_
      clear h1
      refine g_if_ne C 32 hf dX1_hasAllTargets_27 (by decide) (fun hf => ?_) (fun hf => ?_)
      · refine g_iconst C (v := 0) dX1_hasAllTargets_30 rfl ?_
        have e0 : r0 = (0 : Int32) := (B1 _ (Option.some.inj hf).symm).symm
        exact g_iret C rfl hQ (by rw [e0]) rfl dX1_hasAllTargets_31
      · exact w_X1_hasAllTargets_32 C  hQ A1 B1 hf
theorem wl_X1_hasAllTargets_2 {X : gX} {σ : sg} {r0 : Int32} (C : gC X cX1_hasAllTargets 2 RX1 (some .boolean) rm_X1_hasAllTargets)  (hQ : gQ X (qI (XG X) r0 σ))  {n : Nat} {a : Int32} (hf : L_X1_hasAllTargets_2 σ n a = some r0) : G X 2 σ 2 [(0, .ref (Xd X 1)), (1, .int a)] [] := by
  unfold L_X1_hasAllTargets_2 at hf
  have key := g_loop_ind (res := r0) (f := fun a => B_X1_hasAllTargets_2 σ a) (P := fun a => G X 2 σ 2 [(0, .ref (Xd X 1)), (1, .int a)] []) (fun a r1 h1 k1 k2 => w_X1_hasAllTargets_2 (x1 := a) C  hQ  k1 k2 h1)
  exact key n a hf
theorem w_X1_hasAllTargets_e {X : gX} {σ : sg}  {r0 : Int32} (C : gC X cX1_hasAllTargets 2 RX1 (some .boolean) rm_X1_hasAllTargets)  (hQ : gQ X (qI (XG X) r0 σ)) (hf : f_X1_hasAllTargets σ = some r0) : G X 2 σ 0 [(0, .ref (Xd X 1))] [] := by
  unfold f_X1_hasAllTargets at hf
  refine g_iconst C (v := 0) dX1_hasAllTargets_0 rfl ?_
  refine g_istore_n C (lv' := [(1, .int (0 : Int32)), (0, .ref (Xd X 1))]) dX1_hasAllTargets_1 (by decide) rfl ?_
  refine g_sub [1, 0] rfl ?_
  exact wl_X1_hasAllTargets_2 (a := (0 : Int32)) C  hQ  hf
theorem c_X1_hasAllTargets (l : Launch) {Gw : gW} (hI : g_I Gw) {σ : sg}  {r : Int32}  (hf : f_X1_hasAllTargets σ = some r) : gM l Gw yX1_hasAllTargets cX1_hasAllTargets 2 (some .boolean) rm_X1_hasAllTargets [.ref (Gw.2.2 1)] σ (qI (Gw) r σ) := by
  refine g_met hI (by decide) (Nat.le_of_ble_eq_true rfl) (fun X h1 h2 C hQ => ?_)
  subst h1; subst h2
  exact w_X1_hasAllTargets_e C  hQ hf
theorem dX6_isExit_0 : decode cX6_isExit 0 = .ok (.aload_n 0, 1) := by decide +kernel
theorem dX6_isExit_1 : decode cX6_isExit 1 = .ok (.iload_n 1, 1) := by decide +kernel
theorem dX6_isExit_2 : decode cX6_isExit 2 = .ok (.invokevirtual 30, 3) := by decide +kernel
theorem dX6_isExit_5 : decode cX6_isExit 5 = .ok (.bipush 10, 2) := by decide +kernel
theorem dX6_isExit_7 : decode cX6_isExit 7 = .ok (.if_icmp .lt 7, 3) := by decide +kernel
theorem dX6_isExit_10 : decode cX6_isExit 10 = .ok (.iconst 1, 1) := by decide +kernel
theorem dX6_isExit_11 : decode cX6_isExit 11 = .ok (.goto 4, 3) := by decide +kernel
theorem dX6_isExit_14 : decode cX6_isExit 14 = .ok (.iconst 0, 1) := by decide +kernel
theorem dX6_isExit_15 : decode cX6_isExit 15 = .ok (.ireturn, 1) := by decide +kernel
abbrev rm_X6_isExit : Room := { frames := 1, cells := 0, slots := 0, locals := 21 }
theorem w_X6_isExit_e {X : gX} {σ : sg} {p1 : Int32} {r0 : Int32} (C : gC X cX6_isExit 2 RX6 (some .boolean) rm_X6_isExit)  (hQ : gQ X (qI (XG X) r0 σ)) (hf : f_X6_isExit σ p1 = some r0) : G X 2 σ 0 [(0, .ref (Xd X 1)), (1, .int p1)] [] := by
  unfold f_X6_isExit at hf
  refine g_aload_n C 0 dX6_isExit_0 rfl ?_
  refine g_iload_n C 1 dX6_isExit_1 rfl ?_
  obtain ⟨v2, h1, hf⟩ := g_bind hf
  refine g_callVi C 1 [.int p1] (c_X6_operationOf (Xl X) (gC_I C)  h1) ⟨wml_331, wim_332, wse_333, win_2, wcd_334⟩ (by decide) sh_1 vc_6 rfl hd_X6_operationOf ⟨rfl, rfl⟩ ⟨Nat.le_of_ble_eq_true rfl, Nat.le_of_ble_eq_true rfl⟩ rfl rfl (Nat.le_of_ble_eq_true rfl) dX6_isExit_2 ?_
  clear h1
  refine g_bipush C (v := 10) dX6_isExit_5 rfl ?_
  refine g_icmp_lt C 14 hf dX6_isExit_7 (by decide) (fun hf => ?_) (fun hf => ?_)
  · refine g_iconst C (v := 0) dX6_isExit_14 rfl ?_
    have e0 : r0 = (0 : Int32) := (Option.some.inj hf).symm
    exact g_iret C rfl hQ (by rw [e0]) rfl dX6_isExit_15
  · refine g_iconst C (v := 1) dX6_isExit_10 rfl ?_
    refine g_goto C 15 dX6_isExit_11 (by decide) ?_
    have e0 : r0 = (1 : Int32) := (Option.some.inj hf).symm
    exact g_iret C rfl hQ (by rw [e0]) rfl dX6_isExit_15
theorem c_X6_isExit (l : Launch) {Gw : gW} (hI : g_I Gw) {σ : sg} {p1 : Int32} {r : Int32}  (hf : f_X6_isExit σ p1 = some r) : gM l Gw yX6_isExit cX6_isExit 2 (some .boolean) rm_X6_isExit [.ref (Gw.2.2 1), .int p1] σ (qI (Gw) r σ) := by
  refine g_met hI (by decide) (Nat.le_of_ble_eq_true rfl) (fun X h1 h2 C hQ => ?_)
  subst h1; subst h2
  exact w_X6_isExit_e C  hQ hf
theorem dX1_markBegins_0 : decode cX1_markBegins 0 = .ok (.iconst 0, 1) := by decide +kernel
theorem dX1_markBegins_1 : decode cX1_markBegins 1 = .ok (.istore_n 2, 1) := by decide +kernel
theorem dX1_markBegins_2 : decode cX1_markBegins 2 = .ok (.iload_n 2, 1) := by decide +kernel
theorem dX1_markBegins_3 : decode cX1_markBegins 3 = .ok (.aload_n 1, 1) := by decide +kernel
theorem dX1_markBegins_4 : decode cX1_markBegins 4 = .ok (.getfield 38, 3) := by decide +kernel
theorem dX1_markBegins_7 : decode cX1_markBegins 7 = .ok (.if_icmp .ge 34, 3) := by decide +kernel
theorem dX1_markBegins_10 : decode cX1_markBegins 10 = .ok (.aload_n 0, 1) := by decide +kernel
theorem dX1_markBegins_11 : decode cX1_markBegins 11 = .ok (.getfield 18, 3) := by decide +kernel
theorem dX1_markBegins_14 : decode cX1_markBegins 14 = .ok (.iload_n 2, 1) := by decide +kernel
theorem dX1_markBegins_15 : decode cX1_markBegins 15 = .ok (.iload_n 2, 1) := by decide +kernel
theorem dX1_markBegins_16 : decode cX1_markBegins 16 = .ok (.ifCond .eq 13, 3) := by decide +kernel
theorem dX1_markBegins_19 : decode cX1_markBegins 19 = .ok (.aload_n 1, 1) := by decide +kernel
theorem dX1_markBegins_20 : decode cX1_markBegins 20 = .ok (.iload_n 2, 1) := by decide +kernel
theorem dX1_markBegins_21 : decode cX1_markBegins 21 = .ok (.iconst 1, 1) := by decide +kernel
theorem dX1_markBegins_22 : decode cX1_markBegins 22 = .ok (.isub, 1) := by decide +kernel
theorem dX1_markBegins_23 : decode cX1_markBegins 23 = .ok (.invokevirtual 56, 3) := by decide +kernel
theorem dX1_markBegins_26 : decode cX1_markBegins 26 = .ok (.ifCond .eq 7, 3) := by decide +kernel
theorem dX1_markBegins_29 : decode cX1_markBegins 29 = .ok (.iconst 1, 1) := by decide +kernel
theorem dX1_markBegins_30 : decode cX1_markBegins 30 = .ok (.goto 4, 3) := by decide +kernel
theorem dX1_markBegins_33 : decode cX1_markBegins 33 = .ok (.iconst 0, 1) := by decide +kernel
theorem dX1_markBegins_34 : decode cX1_markBegins 34 = .ok (.bastore, 1) := by decide +kernel
theorem dX1_markBegins_35 : decode cX1_markBegins 35 = .ok (.iinc 2 1, 3) := by decide +kernel
theorem dX1_markBegins_38 : decode cX1_markBegins 38 = .ok (.goto (-36), 3) := by decide +kernel
theorem dX1_markBegins_41 : decode cX1_markBegins 41 = .ok (.iconst 0, 1) := by decide +kernel
theorem dX1_markBegins_42 : decode cX1_markBegins 42 = .ok (.istore_n 2, 1) := by decide +kernel
theorem dX1_markBegins_43 : decode cX1_markBegins 43 = .ok (.iload_n 2, 1) := by decide +kernel
theorem dX1_markBegins_44 : decode cX1_markBegins 44 = .ok (.aload_n 1, 1) := by decide +kernel
theorem dX1_markBegins_45 : decode cX1_markBegins 45 = .ok (.getfield 38, 3) := by decide +kernel
theorem dX1_markBegins_48 : decode cX1_markBegins 48 = .ok (.if_icmp .ge 28, 3) := by decide +kernel
theorem dX1_markBegins_51 : decode cX1_markBegins 51 = .ok (.aload_n 1, 1) := by decide +kernel
theorem dX1_markBegins_52 : decode cX1_markBegins 52 = .ok (.iload_n 2, 1) := by decide +kernel
theorem dX1_markBegins_53 : decode cX1_markBegins 53 = .ok (.invokevirtual 45, 3) := by decide +kernel
theorem dX1_markBegins_56 : decode cX1_markBegins 56 = .ok (.ifCond .eq 14, 3) := by decide +kernel
theorem dX1_markBegins_59 : decode cX1_markBegins 59 = .ok (.aload_n 0, 1) := by decide +kernel
theorem dX1_markBegins_60 : decode cX1_markBegins 60 = .ok (.getfield 18, 3) := by decide +kernel
theorem dX1_markBegins_63 : decode cX1_markBegins 63 = .ok (.aload_n 1, 1) := by decide +kernel
theorem dX1_markBegins_64 : decode cX1_markBegins 64 = .ok (.iload_n 2, 1) := by decide +kernel
theorem dX1_markBegins_65 : decode cX1_markBegins 65 = .ok (.invokevirtual 49, 3) := by decide +kernel
theorem dX1_markBegins_68 : decode cX1_markBegins 68 = .ok (.iconst 1, 1) := by decide +kernel
theorem dX1_markBegins_69 : decode cX1_markBegins 69 = .ok (.bastore, 1) := by decide +kernel
theorem dX1_markBegins_70 : decode cX1_markBegins 70 = .ok (.iinc 2 1, 3) := by decide +kernel
theorem dX1_markBegins_73 : decode cX1_markBegins 73 = .ok (.goto (-30), 3) := by decide +kernel
theorem dX1_markBegins_76 : decode cX1_markBegins 76 = .ok (.return_, 1) := by decide +kernel
abbrev rm_X1_markBegins : Room := { frames := 2, cells := 0, slots := 0, locals := 43 }
theorem w_X1_markBegins_70 {X : gX} {x2 : Int32} {σ : sg} {r0 : sg} {r1 : ((Int32 × sg) ⊕ sg)} (C : gC X cX1_markBegins 3 RX1 none rm_X1_markBegins)  (hQ : gQ X (qV (XG X) r0)) (A1 : ∀ b, r1 = .inl b → G X 3 b.2 43 [(0, .ref (Xd X 57)), (1, .ref (Xd X 1)), (2, .int b.1)] []) (B1 : ∀ b, r1 = .inr b → b = r0) (hf : J_X1_markBegins_70 x2 σ = some r1) : G X 3 σ 70 [(0, .ref (Xd X 57)), (1, .ref (Xd X 1)), (2, .int x2)] [] := by
  unfold J_X1_markBegins_70 at hf
  refine g_iinc C (v := x2 + (1 : Int32)) (lv' := [(2, .int (x2 + (1 : Int32))), (0, .ref (Xd X 57)), (1, .ref (Xd X 1))]) 2 dX1_markBegins_70 rfl rfl (by decide) rfl ?_
  refine g_goto C 43 dX1_markBegins_73 (by decide) ?_
  refine g_sub [1, 2, 0] rfl ?_
  exact A1 (x2 + (1 : Int32), σ) (Option.some.inj hf).symm
theorem w_X1_markBegins_43 {X : gX} {x2 : Int32} {σ : sg} {r0 : sg} {r1 : ((Int32 × sg) ⊕ sg)} (C : gC X cX1_markBegins 3 RX1 none rm_X1_markBegins)  (hQ : gQ X (qV (XG X) r0)) (A1 : ∀ b, r1 = .inl b → G X 3 b.2 43 [(0, .ref (Xd X 57)), (1, .ref (Xd X 1)), (2, .int b.1)] []) (B1 : ∀ b, r1 = .inr b → b = r0) (hf : B_X1_markBegins_43 x2 σ = some r1) : G X 3 σ 43 [(0, .ref (Xd X 57)), (1, .ref (Xd X 1)), (2, .int x2)] [] := by
  unfold B_X1_markBegins_43 at hf
  refine g_iload_n C 2 dX1_markBegins_43 rfl ?_
  refine g_aload_n C 1 dX1_markBegins_44 rfl ?_
  refine g_getiN C 6 1 (by decide) sh_1 rfl vc_6 (by decide) inXX6 wfn_36 dX1_markBegins_45 ?_
  refine g_icmp_ge C 76 hf dX1_markBegins_48 (by decide) (fun hf => ?_) (fun hf => ?_)
  · have e0 : r0 = σ := (B1 _ (Option.some.inj hf).symm).symm
    exact g_vret C rfl hQ (by rw [e0]) dX1_markBegins_76
  · refine g_aload_n C 1 dX1_markBegins_51 rfl ?_
    refine g_iload_n C 2 dX1_markBegins_52 rfl ?_
    obtain ⟨v53, h1, hf⟩ := g_bind hf
    refine g_callVi C 1 [.int x2] (c_X6_hasTarget (Xl X) (gC_I C)  h1) ⟨wml_327, wim_328, wse_329, win_2, wcd_330⟩ (by decide) sh_1 vc_6 rfl hd_X6_hasTarget ⟨rfl, rfl⟩ ⟨Nat.le_of_ble_eq_true rfl, Nat.le_of_ble_eq_true rfl⟩ rfl rfl (Nat.le_of_ble_eq_true rfl) dX1_markBegins_53 ?_
    clear h1
    refine g_if_eq C 70 hf dX1_markBegins_56 (by decide) (fun hf => ?_) (fun hf => ?_)
    · exact w_X1_markBegins_70 C  hQ A1 B1 hf
    · refine g_aload_n C 0 dX1_markBegins_59 rfl ?_
      refine g_getr C 1 2 (60) (by decide) sh_57 rfl vc_1 (by decide) inXX1 wfl_80 dX1_markBegins_60 ?_
      refine g_aload_n C 1 dX1_markBegins_63 rfl ?_
      refine g_iload_n C 2 dX1_markBegins_64 rfl ?_
      obtain ⟨v65, h1, hf⟩ := g_bind hf
      refine g_callVi C 1 [.int x2] (c_X6_targetOf (Xl X) (gC_I C)  h1) ⟨wml_335, wim_336, wse_337, win_2, wcd_338⟩ (by decide) sh_1 vc_6 rfl hd_X6_targetOf ⟨rfl, rfl⟩ ⟨Nat.le_of_ble_eq_true rfl, Nat.le_of_ble_eq_true rfl⟩ rfl rfl (Nat.le_of_ble_eq_true rfl) dX1_markBegins_65 ?_
      clear h1
      refine g_iconst C (v := 1) dX1_markBegins_68 rfl ?_
      obtain ⟨s69, h1, hf⟩ := g_bind hf
      refine g_zast C h1 dX1_markBegins_69 ?_
      clear h1
      exact w_X1_markBegins_70 C  hQ A1 B1 hf
theorem wl_X1_markBegins_43 {X : gX}  {r0 : sg} (C : gC X cX1_markBegins 3 RX1 none rm_X1_markBegins)  (hQ : gQ X (qV (XG X) r0))  {n : Nat} {a : (Int32 × sg)} (hf : L_X1_markBegins_43  n a = some r0) : G X 3 a.2 43 [(0, .ref (Xd X 57)), (1, .ref (Xd X 1)), (2, .int a.1)] [] := by
  unfold L_X1_markBegins_43 at hf
  have key := g_loop_ind (res := r0) (f := fun a => B_X1_markBegins_43 a.1 a.2) (P := fun a => G X 3 a.2 43 [(0, .ref (Xd X 57)), (1, .ref (Xd X 1)), (2, .int a.1)] []) (fun a r1 h1 k1 k2 => w_X1_markBegins_43 (x2 := a.1) (σ := a.2) C  hQ  k1 k2 h1)
  exact key n a hf
theorem w_X1_markBegins_34 {X : gX} {x2 : Int32} {t0 : Int32} {t1 : Int32} {t2 : Nat} {σ : sg} {r0 : sg} {r1 : ((Int32 × sg) ⊕ sg)} (C : gC X cX1_markBegins 3 RX1 none rm_X1_markBegins)  (hQ : gQ X (qV (XG X) r0)) (A1 : ∀ b, r1 = .inl b → G X 3 b.2 2 [(0, .ref (Xd X 57)), (1, .ref (Xd X 1)), (2, .int b.1)] []) (B1 : ∀ b, r1 = .inr b → b = r0) (hf : J_X1_markBegins_34 x2 t0 t1 t2 σ = some r1) : G X 3 σ 34 [(0, .ref (Xd X 57)), (1, .ref (Xd X 1)), (2, .int x2)] [.int t0, .int t1, .ref (Xd X t2)] := by
  unfold J_X1_markBegins_34 at hf
  obtain ⟨s34, h1, hf⟩ := g_bind hf
  refine g_zast C h1 dX1_markBegins_34 ?_
  clear h1
  refine g_iinc C (v := x2 + (1 : Int32)) (lv' := [(2, .int (x2 + (1 : Int32))), (0, .ref (Xd X 57)), (1, .ref (Xd X 1))]) 2 dX1_markBegins_35 rfl rfl (by decide) rfl ?_
  refine g_goto C 2 dX1_markBegins_38 (by decide) ?_
  refine g_sub [1, 2, 0] rfl ?_
  exact A1 (x2 + (1 : Int32), s34) (Option.some.inj hf).symm
theorem w_X1_markBegins_29 {X : gX} {x2 : Int32} {t0 : Int32} {t1 : Nat} {σ : sg} {r0 : sg} {r1 : ((Int32 × sg) ⊕ sg)} (C : gC X cX1_markBegins 3 RX1 none rm_X1_markBegins)  (hQ : gQ X (qV (XG X) r0)) (A1 : ∀ b, r1 = .inl b → G X 3 b.2 2 [(0, .ref (Xd X 57)), (1, .ref (Xd X 1)), (2, .int b.1)] []) (B1 : ∀ b, r1 = .inr b → b = r0) (hf : J_X1_markBegins_29 x2 t0 t1 σ = some r1) : G X 3 σ 29 [(0, .ref (Xd X 57)), (1, .ref (Xd X 1)), (2, .int x2)] [.int t0, .ref (Xd X t1)] := by
  unfold J_X1_markBegins_29 at hf
  refine g_iconst C (v := 1) dX1_markBegins_29 rfl ?_
  refine g_goto C 34 dX1_markBegins_30 (by decide) ?_
  exact w_X1_markBegins_34 C  hQ A1 B1 hf
theorem w_X1_markBegins_2 {X : gX} {x2 : Int32} {σ : sg} {r0 : sg} {r1 : ((Int32 × sg) ⊕ sg)} (C : gC X cX1_markBegins 3 RX1 none rm_X1_markBegins)  (hQ : gQ X (qV (XG X) r0)) (A1 : ∀ b, r1 = .inl b → G X 3 b.2 2 [(0, .ref (Xd X 57)), (1, .ref (Xd X 1)), (2, .int b.1)] []) (B1 : ∀ b, r1 = .inr b → b = r0) (hf : B_X1_markBegins_2 x2 σ = some r1) : G X 3 σ 2 [(0, .ref (Xd X 57)), (1, .ref (Xd X 1)), (2, .int x2)] [] := by
  unfold B_X1_markBegins_2 at hf
  refine g_iload_n C 2 dX1_markBegins_2 rfl ?_
  refine g_aload_n C 1 dX1_markBegins_3 rfl ?_
  refine g_getiN C 6 1 (by decide) sh_1 rfl vc_6 (by decide) inXX6 wfn_36 dX1_markBegins_4 ?_
  refine g_icmp_ge C 41 hf dX1_markBegins_7 (by decide) (fun hf => ?_) (fun hf => ?_)
  · refine g_iconst C (v := 0) dX1_markBegins_41 rfl ?_
    refine g_istore_n C (lv' := [(2, .int (0 : Int32)), (0, .ref (Xd X 57)), (1, .ref (Xd X 1))]) dX1_markBegins_42 (by decide) rfl ?_
    refine g_sub [1, 2, 0] rfl ?_
    obtain ⟨t, h1, hf⟩ := g_bind hf
    exact wl_X1_markBegins_43 (a := ((0 : Int32), σ)) C  hQ  (h1.trans (congrArg some ((B1 _ (Option.some.inj hf).symm).symm).symm))
  · refine g_aload_n C 0 dX1_markBegins_10 rfl ?_
    refine g_getr C 1 2 (60) (by decide) sh_57 rfl vc_1 (by decide) inXX1 wfl_80 dX1_markBegins_11 ?_
    refine g_iload_n C 2 dX1_markBegins_14 rfl ?_
    refine g_iload_n C 2 dX1_markBegins_15 rfl ?_
    refine g_if_eq C 29 hf dX1_markBegins_16 (by decide) (fun hf => ?_) (fun hf => ?_)
    · exact w_X1_markBegins_29 C  hQ A1 B1 hf
    · refine g_aload_n C 1 dX1_markBegins_19 rfl ?_
      refine g_iload_n C 2 dX1_markBegins_20 rfl ?_
      refine g_iconst C (v := 1) dX1_markBegins_21 rfl ?_
      refine g_isub C dX1_markBegins_22 ?_
      obtain ⟨v23, h1, hf⟩ := g_bind hf
      refine g_callVi C 1 [.int (x2 - (1 : Int32))] (c_X6_isExit (Xl X) (gC_I C)  h1) ⟨wml_347, wim_348, wse_349, win_2, wcd_350⟩ (by decide) sh_1 vc_6 rfl hd_X6_isExit ⟨rfl, rfl⟩ ⟨Nat.le_of_ble_eq_true rfl, Nat.le_of_ble_eq_true rfl⟩ rfl rfl (Nat.le_of_ble_eq_true rfl) dX1_markBegins_23 ?_
      clear h1
      refine g_if_eq C 33 hf dX1_markBegins_26 (by decide) (fun hf => ?_) (fun hf => ?_)
      · refine g_iconst C (v := 0) dX1_markBegins_33 rfl ?_
        exact w_X1_markBegins_34 C  hQ A1 B1 hf
      · exact w_X1_markBegins_29 C  hQ A1 B1 hf
theorem wl_X1_markBegins_2 {X : gX}  {r0 : sg} (C : gC X cX1_markBegins 3 RX1 none rm_X1_markBegins)  (hQ : gQ X (qV (XG X) r0))  {n : Nat} {a : (Int32 × sg)} (hf : L_X1_markBegins_2  n a = some r0) : G X 3 a.2 2 [(0, .ref (Xd X 57)), (1, .ref (Xd X 1)), (2, .int a.1)] [] := by
  unfold L_X1_markBegins_2 at hf
  have key := g_loop_ind (res := r0) (f := fun a => B_X1_markBegins_2 a.1 a.2) (P := fun a => G X 3 a.2 2 [(0, .ref (Xd X 57)), (1, .ref (Xd X 1)), (2, .int a.1)] []) (fun a r1 h1 k1 k2 => w_X1_markBegins_2 (x2 := a.1) (σ := a.2) C  hQ  k1 k2 h1)
  exact key n a hf
theorem w_X1_markBegins_e {X : gX} {σ : sg}  {r0 : sg} (C : gC X cX1_markBegins 3 RX1 none rm_X1_markBegins)  (hQ : gQ X (qV (XG X) r0)) (hf : f_X1_markBegins σ = some r0) : G X 3 σ 0 [(0, .ref (Xd X 57)), (1, .ref (Xd X 1))] [] := by
  unfold f_X1_markBegins at hf
  refine g_iconst C (v := 0) dX1_markBegins_0 rfl ?_
  refine g_istore_n C (lv' := [(2, .int (0 : Int32)), (0, .ref (Xd X 57)), (1, .ref (Xd X 1))]) dX1_markBegins_1 (by decide) rfl ?_
  refine g_sub [1, 2, 0] rfl ?_
  exact wl_X1_markBegins_2 (a := ((0 : Int32), σ)) C  hQ  hf
theorem c_X1_markBegins (l : Launch) {Gw : gW} (hI : g_I Gw) {σ : sg}  {r : sg}  (hf : f_X1_markBegins σ = some r) : gM l Gw yX1_markBegins cX1_markBegins 3 none rm_X1_markBegins [.ref (Gw.2.2 57), .ref (Gw.2.2 1)] σ (qV (Gw) r) := by
  refine g_met hI (by decide) (Nat.le_of_ble_eq_true rfl) (fun X h1 h2 C hQ => ?_)
  subst h1; subst h2
  exact w_X1_markBegins_e C  hQ hf
theorem dX1_numberBlocks_0 : decode cX1_numberBlocks 0 = .ok (.iconst 0, 1) := by decide +kernel
theorem dX1_numberBlocks_1 : decode cX1_numberBlocks 1 = .ok (.istore_n 2, 1) := by decide +kernel
theorem dX1_numberBlocks_2 : decode cX1_numberBlocks 2 = .ok (.iload_n 2, 1) := by decide +kernel
theorem dX1_numberBlocks_3 : decode cX1_numberBlocks 3 = .ok (.iload_n 1, 1) := by decide +kernel
theorem dX1_numberBlocks_4 : decode cX1_numberBlocks 4 = .ok (.if_icmp .ge 50, 3) := by decide +kernel
theorem dX1_numberBlocks_7 : decode cX1_numberBlocks 7 = .ok (.aload_n 0, 1) := by decide +kernel
theorem dX1_numberBlocks_8 : decode cX1_numberBlocks 8 = .ok (.getfield 18, 3) := by decide +kernel
theorem dX1_numberBlocks_11 : decode cX1_numberBlocks 11 = .ok (.iload_n 2, 1) := by decide +kernel
theorem dX1_numberBlocks_12 : decode cX1_numberBlocks 12 = .ok (.baload, 1) := by decide +kernel
theorem dX1_numberBlocks_13 : decode cX1_numberBlocks 13 = .ok (.ifCond .eq 23, 3) := by decide +kernel
theorem dX1_numberBlocks_16 : decode cX1_numberBlocks 16 = .ok (.aload_n 0, 1) := by decide +kernel
theorem dX1_numberBlocks_17 : decode cX1_numberBlocks 17 = .ok (.getfield 9, 3) := by decide +kernel
theorem dX1_numberBlocks_20 : decode cX1_numberBlocks 20 = .ok (.aload_n 0, 1) := by decide +kernel
theorem dX1_numberBlocks_21 : decode cX1_numberBlocks 21 = .ok (.getfield 26, 3) := by decide +kernel
theorem dX1_numberBlocks_24 : decode cX1_numberBlocks 24 = .ok (.iload_n 2, 1) := by decide +kernel
theorem dX1_numberBlocks_25 : decode cX1_numberBlocks 25 = .ok (.iastore, 1) := by decide +kernel
theorem dX1_numberBlocks_26 : decode cX1_numberBlocks 26 = .ok (.aload_n 0, 1) := by decide +kernel
theorem dX1_numberBlocks_27 : decode cX1_numberBlocks 27 = .ok (.dup, 1) := by decide +kernel
theorem dX1_numberBlocks_28 : decode cX1_numberBlocks 28 = .ok (.getfield 26, 3) := by decide +kernel
theorem dX1_numberBlocks_31 : decode cX1_numberBlocks 31 = .ok (.iconst 1, 1) := by decide +kernel
theorem dX1_numberBlocks_32 : decode cX1_numberBlocks 32 = .ok (.iadd, 1) := by decide +kernel
theorem dX1_numberBlocks_33 : decode cX1_numberBlocks 33 = .ok (.putfield 26, 3) := by decide +kernel
theorem dX1_numberBlocks_36 : decode cX1_numberBlocks 36 = .ok (.aload_n 0, 1) := by decide +kernel
theorem dX1_numberBlocks_37 : decode cX1_numberBlocks 37 = .ok (.getfield 15, 3) := by decide +kernel
theorem dX1_numberBlocks_40 : decode cX1_numberBlocks 40 = .ok (.iload_n 2, 1) := by decide +kernel
theorem dX1_numberBlocks_41 : decode cX1_numberBlocks 41 = .ok (.aload_n 0, 1) := by decide +kernel
theorem dX1_numberBlocks_42 : decode cX1_numberBlocks 42 = .ok (.getfield 26, 3) := by decide +kernel
theorem dX1_numberBlocks_45 : decode cX1_numberBlocks 45 = .ok (.iconst 1, 1) := by decide +kernel
theorem dX1_numberBlocks_46 : decode cX1_numberBlocks 46 = .ok (.isub, 1) := by decide +kernel
theorem dX1_numberBlocks_47 : decode cX1_numberBlocks 47 = .ok (.iastore, 1) := by decide +kernel
theorem dX1_numberBlocks_48 : decode cX1_numberBlocks 48 = .ok (.iinc 2 1, 3) := by decide +kernel
theorem dX1_numberBlocks_51 : decode cX1_numberBlocks 51 = .ok (.goto (-49), 3) := by decide +kernel
theorem dX1_numberBlocks_54 : decode cX1_numberBlocks 54 = .ok (.aload_n 0, 1) := by decide +kernel
theorem dX1_numberBlocks_55 : decode cX1_numberBlocks 55 = .ok (.getfield 9, 3) := by decide +kernel
theorem dX1_numberBlocks_58 : decode cX1_numberBlocks 58 = .ok (.aload_n 0, 1) := by decide +kernel
theorem dX1_numberBlocks_59 : decode cX1_numberBlocks 59 = .ok (.getfield 26, 3) := by decide +kernel
theorem dX1_numberBlocks_62 : decode cX1_numberBlocks 62 = .ok (.iload_n 1, 1) := by decide +kernel
theorem dX1_numberBlocks_63 : decode cX1_numberBlocks 63 = .ok (.iastore, 1) := by decide +kernel
theorem dX1_numberBlocks_64 : decode cX1_numberBlocks 64 = .ok (.return_, 1) := by decide +kernel
abbrev rm_X1_numberBlocks : Room := { frames := 0, cells := 0, slots := 0, locals := 0 }
theorem w_X1_numberBlocks_36 {X : gX} {p1 : Int32} {x2 : Int32} {σ : sg} {r0 : sg} {r1 : ((Int32 × sg) ⊕ sg)} (C : gC X cX1_numberBlocks 3 RX1 none rm_X1_numberBlocks)  (hQ : gQ X (qV (XG X) r0)) (A1 : ∀ b, r1 = .inl b → G X 3 b.2 2 [(0, .ref (Xd X 57)), (1, .int p1), (2, .int b.1)] []) (B1 : ∀ b, r1 = .inr b → b = r0) (hf : J_X1_numberBlocks_36 p1 x2 σ = some r1) : G X 3 σ 36 [(0, .ref (Xd X 57)), (1, .int p1), (2, .int x2)] [] := by
  unfold J_X1_numberBlocks_36 at hf
  refine g_aload_n C 0 dX1_numberBlocks_36 rfl ?_
  refine g_getr C 1 1 (59) (by decide) sh_57 rfl vc_1 (by decide) inXX1 wfl_77 dX1_numberBlocks_37 ?_
  refine g_iload_n C 2 dX1_numberBlocks_40 rfl ?_
  refine g_aload_n C 0 dX1_numberBlocks_41 rfl ?_
  refine g_geti C 1 3 (by decide) sh_57 rfl vc_1 (by decide) inXX1 wfl_81 dX1_numberBlocks_42 ?_
  refine g_iconst C (v := 1) dX1_numberBlocks_45 rfl ?_
  refine g_isub C dX1_numberBlocks_46 ?_
  obtain ⟨s47, h1, hf⟩ := g_bind hf
  refine g_iast C h1 dX1_numberBlocks_47 ?_
  clear h1
  refine g_iinc C (v := x2 + (1 : Int32)) (lv' := [(2, .int (x2 + (1 : Int32))), (0, .ref (Xd X 57)), (1, .int p1)]) 2 dX1_numberBlocks_48 rfl rfl (by decide) rfl ?_
  refine g_goto C 2 dX1_numberBlocks_51 (by decide) ?_
  refine g_sub [1, 2, 0] rfl ?_
  exact A1 (x2 + (1 : Int32), s47) (Option.some.inj hf).symm
theorem w_X1_numberBlocks_2 {X : gX} {p1 : Int32} {x2 : Int32} {σ : sg} {r0 : sg} {r1 : ((Int32 × sg) ⊕ sg)} (C : gC X cX1_numberBlocks 3 RX1 none rm_X1_numberBlocks)  (hQ : gQ X (qV (XG X) r0)) (A1 : ∀ b, r1 = .inl b → G X 3 b.2 2 [(0, .ref (Xd X 57)), (1, .int p1), (2, .int b.1)] []) (B1 : ∀ b, r1 = .inr b → b = r0) (hf : B_X1_numberBlocks_2 p1 x2 σ = some r1) : G X 3 σ 2 [(0, .ref (Xd X 57)), (1, .int p1), (2, .int x2)] [] := by
  unfold B_X1_numberBlocks_2 at hf
  refine g_iload_n C 2 dX1_numberBlocks_2 rfl ?_
  refine g_iload_n C 1 dX1_numberBlocks_3 rfl ?_
  refine g_icmp_ge C 54 hf dX1_numberBlocks_4 (by decide) (fun hf => ?_) (fun hf => ?_)
  · refine g_aload_n C 0 dX1_numberBlocks_54 rfl ?_
    refine g_getr C 1 0 (58) (by decide) sh_57 rfl vc_1 (by decide) inXX1 wfl_74 dX1_numberBlocks_55 ?_
    refine g_aload_n C 0 dX1_numberBlocks_58 rfl ?_
    refine g_geti C 1 3 (by decide) sh_57 rfl vc_1 (by decide) inXX1 wfl_81 dX1_numberBlocks_59 ?_
    refine g_iload_n C 1 dX1_numberBlocks_62 rfl ?_
    obtain ⟨s63, h1, hf⟩ := g_bind hf
    refine g_iast C h1 dX1_numberBlocks_63 ?_
    clear h1
    have e0 : r0 = s63 := (B1 _ (Option.some.inj hf).symm).symm
    exact g_vret C rfl hQ (by rw [e0]) dX1_numberBlocks_64
  · refine g_aload_n C 0 dX1_numberBlocks_7 rfl ?_
    refine g_getr C 1 2 (60) (by decide) sh_57 rfl vc_1 (by decide) inXX1 wfl_80 dX1_numberBlocks_8 ?_
    refine g_iload_n C 2 dX1_numberBlocks_11 rfl ?_
    obtain ⟨v12, h1, hf⟩ := g_bind hf
    refine g_zald C h1 dX1_numberBlocks_12 ?_
    clear h1
    refine g_if_eq C 36 hf dX1_numberBlocks_13 (by decide) (fun hf => ?_) (fun hf => ?_)
    · exact w_X1_numberBlocks_36 C  hQ A1 B1 hf
    · refine g_aload_n C 0 dX1_numberBlocks_16 rfl ?_
      refine g_getr C 1 0 (58) (by decide) sh_57 rfl vc_1 (by decide) inXX1 wfl_74 dX1_numberBlocks_17 ?_
      refine g_aload_n C 0 dX1_numberBlocks_20 rfl ?_
      refine g_geti C 1 3 (by decide) sh_57 rfl vc_1 (by decide) inXX1 wfl_81 dX1_numberBlocks_21 ?_
      refine g_iload_n C 2 dX1_numberBlocks_24 rfl ?_
      obtain ⟨s25, h1, hf⟩ := g_bind hf
      refine g_iast C h1 dX1_numberBlocks_25 ?_
      clear h1
      refine g_aload_n C 0 dX1_numberBlocks_26 rfl ?_
      refine g_dup C dX1_numberBlocks_27 rfl ?_
      refine g_geti C 1 3 (by decide) sh_57 rfl vc_1 (by decide) inXX1 wfl_81 dX1_numberBlocks_28 ?_
      refine g_iconst C (v := 1) dX1_numberBlocks_31 rfl ?_
      refine g_iadd C dX1_numberBlocks_32 ?_
      obtain ⟨s33, h1, hf⟩ := g_bind hf
      refine g_put C 1 3 (by decide) sh_57 rfl (by decide) vc_1 (by decide) tyX1 tyX1_ok nmX1 inXX1 wfl_81 rfl (ty := .int) (by decide +kernel) rfl rfl dX1_numberBlocks_33 ?_
      rw [Option.some.inj h1]
      clear h1
      exact w_X1_numberBlocks_36 C  hQ A1 B1 hf
theorem wl_X1_numberBlocks_2 {X : gX} {p1 : Int32} {r0 : sg} (C : gC X cX1_numberBlocks 3 RX1 none rm_X1_numberBlocks)  (hQ : gQ X (qV (XG X) r0))  {n : Nat} {a : (Int32 × sg)} (hf : L_X1_numberBlocks_2 p1 n a = some r0) : G X 3 a.2 2 [(0, .ref (Xd X 57)), (1, .int p1), (2, .int a.1)] [] := by
  unfold L_X1_numberBlocks_2 at hf
  have key := g_loop_ind (res := r0) (f := fun a => B_X1_numberBlocks_2 p1 a.1 a.2) (P := fun a => G X 3 a.2 2 [(0, .ref (Xd X 57)), (1, .int p1), (2, .int a.1)] []) (fun a r1 h1 k1 k2 => w_X1_numberBlocks_2 (x2 := a.1) (σ := a.2) C  hQ  k1 k2 h1)
  exact key n a hf
theorem w_X1_numberBlocks_e {X : gX} {σ : sg} {p1 : Int32} {r0 : sg} (C : gC X cX1_numberBlocks 3 RX1 none rm_X1_numberBlocks)  (hQ : gQ X (qV (XG X) r0)) (hf : f_X1_numberBlocks σ p1 = some r0) : G X 3 σ 0 [(0, .ref (Xd X 57)), (1, .int p1)] [] := by
  unfold f_X1_numberBlocks at hf
  refine g_iconst C (v := 0) dX1_numberBlocks_0 rfl ?_
  refine g_istore_n C (lv' := [(2, .int (0 : Int32)), (0, .ref (Xd X 57)), (1, .int p1)]) dX1_numberBlocks_1 (by decide) rfl ?_
  refine g_sub [1, 2, 0] rfl ?_
  exact wl_X1_numberBlocks_2 (a := ((0 : Int32), σ)) C  hQ  hf
theorem c_X1_numberBlocks (l : Launch) {Gw : gW} (hI : g_I Gw) {σ : sg} {p1 : Int32} {r : sg}  (hf : f_X1_numberBlocks σ p1 = some r) : gM l Gw yX1_numberBlocks cX1_numberBlocks 3 none rm_X1_numberBlocks [.ref (Gw.2.2 57), .int p1] σ (qV (Gw) r) := by
  refine g_met hI (by decide) (Nat.le_of_ble_eq_true rfl) (fun X h1 h2 C hQ => ?_)
  subst h1; subst h2
  exact w_X1_numberBlocks_e C  hQ hf
theorem dX1_cut_0 : decode cX1_cut 0 = .ok (.aload_n 0, 1) := by decide +kernel
theorem dX1_cut_1 : decode cX1_cut 1 = .ok (.iconst 0, 1) := by decide +kernel
theorem dX1_cut_2 : decode cX1_cut 2 = .ok (.putfield 26, 3) := by decide +kernel
theorem dX1_cut_5 : decode cX1_cut 5 = .ok (.aload_n 0, 1) := by decide +kernel
theorem dX1_cut_6 : decode cX1_cut 6 = .ok (.aload_n 1, 1) := by decide +kernel
theorem dX1_cut_7 : decode cX1_cut 7 = .ok (.invokestatic 30, 3) := by decide +kernel
theorem dX1_cut_10 : decode cX1_cut 10 = .ok (.putfield 22, 3) := by decide +kernel
theorem dX1_cut_13 : decode cX1_cut 13 = .ok (.aload_n 0, 1) := by decide +kernel
theorem dX1_cut_14 : decode cX1_cut 14 = .ok (.getfield 22, 3) := by decide +kernel
theorem dX1_cut_17 : decode cX1_cut 17 = .ok (.ifCond .eq 16, 3) := by decide +kernel
theorem dX1_cut_20 : decode cX1_cut 20 = .ok (.aload_n 0, 1) := by decide +kernel
theorem dX1_cut_21 : decode cX1_cut 21 = .ok (.aload_n 1, 1) := by decide +kernel
theorem dX1_cut_22 : decode cX1_cut 22 = .ok (.invokevirtual 34, 3) := by decide +kernel
theorem dX1_cut_25 : decode cX1_cut 25 = .ok (.aload_n 0, 1) := by decide +kernel
theorem dX1_cut_26 : decode cX1_cut 26 = .ok (.aload_n 1, 1) := by decide +kernel
theorem dX1_cut_27 : decode cX1_cut 27 = .ok (.getfield 38, 3) := by decide +kernel
theorem dX1_cut_30 : decode cX1_cut 30 = .ok (.invokevirtual 41, 3) := by decide +kernel
theorem dX1_cut_33 : decode cX1_cut 33 = .ok (.return_, 1) := by decide +kernel
abbrev rm_X1_cut : Room := { frames := 3, cells := 0, slots := 0, locals := 65 }
theorem w_X1_cut_e {X : gX} {σ : sg}  {r0 : sg} (C : gC X cX1_cut 2 RX1 none rm_X1_cut)  (hQ : gQ X (qV (XG X) r0)) (hf : f_X1_cut σ = some r0) : G X 2 σ 0 [(0, .ref (Xd X 57)), (1, .ref (Xd X 1))] [] := by
  unfold f_X1_cut at hf
  refine g_aload_n C 0 dX1_cut_0 rfl ?_
  refine g_iconst C (v := 0) dX1_cut_1 rfl ?_
  obtain ⟨s2, h1, hf⟩ := g_bind hf
  refine g_put C 1 3 (by decide) sh_57 rfl (by decide) vc_1 (by decide) tyX1 tyX1_ok nmX1 inXX1 wfl_81 rfl (ty := .int) (by decide +kernel) rfl rfl dX1_cut_2 ?_
  rw [Option.some.inj h1]
  clear h1
  refine g_aload_n C 0 dX1_cut_5 rfl ?_
  refine g_aload_n C 1 dX1_cut_6 rfl ?_
  obtain ⟨v7, h1, hf⟩ := g_bind hf
  refine g_callSi C 1 [.ref (Xd X 1)] (c_X1_hasAllTargets (Xl X) (gC_I C)  h1) ⟨wml_324, wst_325, win_4, wcd_326⟩ hd_X1_hasAllTargets ⟨rfl, rfl⟩ ⟨Nat.le_of_ble_eq_true rfl, Nat.le_of_ble_eq_true rfl⟩ rfl rfl (Nat.le_of_ble_eq_true rfl) dX1_cut_7 ?_
  clear h1
  refine g_if hf (fun hf hz => ?_) (fun hf _ => by cases hf)
  obtain ⟨s10, h1, hf⟩ := g_bind hf
  refine g_put C 1 4 (by decide) sh_57 rfl (by decide) vc_1 (by decide) tyX1 tyX1_ok nmX1 inXX1 wfl_84 rfl (ty := .boolean) (by decide +kernel) (g_nz hz) (g_fz hz) dX1_cut_10 ?_
  rw [Option.some.inj h1]
  clear h1
  refine g_aload_n C 0 dX1_cut_13 rfl ?_
  refine g_geti C 1 4 (by decide) sh_57 rfl vc_1 (by decide) inXX1 wfl_84 dX1_cut_14 ?_
  refine g_if_eq C 33 hf dX1_cut_17 (by decide) (fun hf => ?_) (fun hf => ?_)
  · have e0 : r0 = s10 := (Option.some.inj hf).symm
    exact g_vret C rfl hQ (by rw [e0]) dX1_cut_33
  · refine g_aload_n C 0 dX1_cut_20 rfl ?_
    refine g_aload_n C 1 dX1_cut_21 rfl ?_
    obtain ⟨s22, h1, hf⟩ := g_bind hf
    refine g_callVv C 1 [.ref (Xd X 1)] (c_X1_markBegins (Xl X) (gC_I C)  h1) ⟨wml_343, wim_345, wsp_0, win_4, wcd_346⟩ (by decide) sh_57 vc_1 rfl hd_X1_markBegins ⟨rfl, rfl⟩ ⟨Nat.le_of_ble_eq_true rfl, Nat.le_of_ble_eq_true rfl⟩ rfl rfl (Nat.le_of_ble_eq_true rfl) dX1_cut_22 ?_
    clear h1
    refine g_aload_n C 0 dX1_cut_25 rfl ?_
    refine g_aload_n C 1 dX1_cut_26 rfl ?_
    refine g_getiN C 6 1 (by decide) sh_1 rfl vc_6 (by decide) inXX6 wfn_36 dX1_cut_27 ?_
    obtain ⟨s30, h1, hf⟩ := g_bind hf
    refine g_callVv C 1 [.int (s22 1 1)] (c_X1_numberBlocks (Xl X) (gC_I C)  h1) ⟨wml_351, wim_353, wsp_1, win_4, wcd_354⟩ (by decide) sh_57 vc_1 rfl hd_X1_numberBlocks ⟨rfl, rfl⟩ ⟨Nat.le_of_ble_eq_true rfl, Nat.le_of_ble_eq_true rfl⟩ rfl rfl (Nat.le_of_ble_eq_true rfl) dX1_cut_30 ?_
    clear h1
    have e0 : r0 = s30 := (Option.some.inj hf).symm
    exact g_vret C rfl hQ (by rw [e0]) dX1_cut_33
theorem c_X1_cut (l : Launch) {Gw : gW} (hI : g_I Gw) {σ : sg}  {r : sg}  (hf : f_X1_cut σ = some r) : gM l Gw yX1_cut cX1_cut 2 none rm_X1_cut [.ref (Gw.2.2 57), .ref (Gw.2.2 1)] σ (qV (Gw) r) := by
  refine g_met hI (by decide) (Nat.le_of_ble_eq_true rfl) (fun X h1 h2 C hQ => ?_)
  subst h1; subst h2
  exact w_X1_cut_e C  hQ hf
theorem dX2_enter_0 : decode cX2_enter 0 = .ok (.aload_n 0, 1) := by decide +kernel
theorem dX2_enter_1 : decode cX2_enter 1 = .ok (.iload_n 1, 1) := by decide +kernel
theorem dX2_enter_2 : decode cX2_enter 2 = .ok (.putfield 26, 3) := by decide +kernel
theorem dX2_enter_5 : decode cX2_enter 5 = .ok (.aload_n 0, 1) := by decide +kernel
theorem dX2_enter_6 : decode cX2_enter 6 = .ok (.iload_n 2, 1) := by decide +kernel
theorem dX2_enter_7 : decode cX2_enter 7 = .ok (.putfield 30, 3) := by decide +kernel
theorem dX2_enter_10 : decode cX2_enter 10 = .ok (.return_, 1) := by decide +kernel
abbrev rm_X2_enter : Room := { frames := 0, cells := 0, slots := 0, locals := 0 }
theorem w_X2_enter_e {X : gX} {σ : sg} {p1 : Int32} {p2 : Int32} {r0 : sg} (C : gC X cX2_enter 3 RX2 none rm_X2_enter)  (hQ : gQ X (qV (XG X) r0)) (hf : f_X2_enter σ p1 p2 = some r0) : G X 3 σ 0 [(0, .ref (Xd X 72)), (1, .int p1), (2, .int p2)] [] := by
  unfold f_X2_enter at hf
  refine g_aload_n C 0 dX2_enter_0 rfl ?_
  refine g_iload_n C 1 dX2_enter_1 rfl ?_
  obtain ⟨s2, h1, hf⟩ := g_bind hf
  refine g_put C 2 4 (by decide) sh_72 rfl (by decide) vc_2 (by decide) tyX2 tyX2_ok nmX2 inXX2 wfl_133 rfl (ty := .int) (by decide +kernel) rfl rfl dX2_enter_2 ?_
  rw [Option.some.inj h1]
  clear h1
  refine g_aload_n C 0 dX2_enter_5 rfl ?_
  refine g_iload_n C 2 dX2_enter_6 rfl ?_
  obtain ⟨s7, h1, hf⟩ := g_bind hf
  refine g_put C 2 5 (by decide) sh_72 rfl (by decide) vc_2 (by decide) tyX2 tyX2_ok nmX2 inXX2 wfl_135 rfl (ty := .int) (by decide +kernel) rfl rfl dX2_enter_7 ?_
  rw [Option.some.inj h1]
  clear h1
  have e0 : r0 = s7 := (Option.some.inj hf).symm
  exact g_vret C rfl hQ (by rw [e0]) dX2_enter_10
theorem c_X2_enter (l : Launch) {Gw : gW} (hI : g_I Gw) {σ : sg} {p1 : Int32} {p2 : Int32} {r : sg}  (hf : f_X2_enter σ p1 p2 = some r) : gM l Gw yX2_enter cX2_enter 3 none rm_X2_enter [.ref (Gw.2.2 72), .int p1, .int p2] σ (qV (Gw) r) := by
  refine g_met hI (by decide) (Nat.le_of_ble_eq_true rfl) (fun X h1 h2 C hQ => ?_)
  subst h1; subst h2
  exact w_X2_enter_e C  hQ hf
theorem dX7_fits_0 : decode cX7_fits 0 = .ok (.iload_n 1, 1) := by decide +kernel
theorem dX7_fits_1 : decode cX7_fits 1 = .ok (.tableswitch 75 0 2 #[27, 51, 63], 27) := by decide +kernel
theorem dX7_fits_28 : decode cX7_fits 28 = .ok (.iload_n 0, 1) := by decide +kernel
theorem dX7_fits_29 : decode cX7_fits 29 = .ok (.bipush 6, 2) := by decide +kernel
theorem dX7_fits_31 : decode cX7_fits 31 = .ok (.if_icmp .le 15, 3) := by decide +kernel
theorem dX7_fits_34 : decode cX7_fits 34 = .ok (.iload_n 0, 1) := by decide +kernel
theorem dX7_fits_35 : decode cX7_fits 35 = .ok (.bipush 8, 2) := by decide +kernel
theorem dX7_fits_37 : decode cX7_fits 37 = .ok (.if_icmp .eq 9, 3) := by decide +kernel
theorem dX7_fits_40 : decode cX7_fits 40 = .ok (.iload_n 0, 1) := by decide +kernel
theorem dX7_fits_41 : decode cX7_fits 41 = .ok (.bipush 9, 2) := by decide +kernel
theorem dX7_fits_43 : decode cX7_fits 43 = .ok (.if_icmp .ne 7, 3) := by decide +kernel
theorem dX7_fits_46 : decode cX7_fits 46 = .ok (.iconst 1, 1) := by decide +kernel
theorem dX7_fits_47 : decode cX7_fits 47 = .ok (.goto 4, 3) := by decide +kernel
theorem dX7_fits_50 : decode cX7_fits 50 = .ok (.iconst 0, 1) := by decide +kernel
theorem dX7_fits_51 : decode cX7_fits 51 = .ok (.ireturn, 1) := by decide +kernel
theorem dX7_fits_52 : decode cX7_fits 52 = .ok (.iload_n 0, 1) := by decide +kernel
theorem dX7_fits_53 : decode cX7_fits 53 = .ok (.bipush 6, 2) := by decide +kernel
theorem dX7_fits_55 : decode cX7_fits 55 = .ok (.if_icmp .gt 7, 3) := by decide +kernel
theorem dX7_fits_58 : decode cX7_fits 58 = .ok (.iconst 1, 1) := by decide +kernel
theorem dX7_fits_59 : decode cX7_fits 59 = .ok (.goto 4, 3) := by decide +kernel
theorem dX7_fits_62 : decode cX7_fits 62 = .ok (.iconst 0, 1) := by decide +kernel
theorem dX7_fits_63 : decode cX7_fits 63 = .ok (.ireturn, 1) := by decide +kernel
theorem dX7_fits_64 : decode cX7_fits 64 = .ok (.iload_n 0, 1) := by decide +kernel
theorem dX7_fits_65 : decode cX7_fits 65 = .ok (.bipush 7, 2) := by decide +kernel
theorem dX7_fits_67 : decode cX7_fits 67 = .ok (.if_icmp .ne 7, 3) := by decide +kernel
theorem dX7_fits_70 : decode cX7_fits 70 = .ok (.iconst 1, 1) := by decide +kernel
theorem dX7_fits_71 : decode cX7_fits 71 = .ok (.goto 4, 3) := by decide +kernel
theorem dX7_fits_74 : decode cX7_fits 74 = .ok (.iconst 0, 1) := by decide +kernel
theorem dX7_fits_75 : decode cX7_fits 75 = .ok (.ireturn, 1) := by decide +kernel
theorem dX7_fits_76 : decode cX7_fits 76 = .ok (.iload_n 0, 1) := by decide +kernel
theorem dX7_fits_77 : decode cX7_fits 77 = .ok (.bipush 10, 2) := by decide +kernel
theorem dX7_fits_79 : decode cX7_fits 79 = .ok (.if_icmp .lt 7, 3) := by decide +kernel
theorem dX7_fits_82 : decode cX7_fits 82 = .ok (.iconst 1, 1) := by decide +kernel
theorem dX7_fits_83 : decode cX7_fits 83 = .ok (.goto 4, 3) := by decide +kernel
theorem dX7_fits_86 : decode cX7_fits 86 = .ok (.iconst 0, 1) := by decide +kernel
theorem dX7_fits_87 : decode cX7_fits 87 = .ok (.ireturn, 1) := by decide +kernel
abbrev rm_X7_fits : Room := { frames := 0, cells := 0, slots := 0, locals := 0 }
theorem w_X7_fits_46 {X : gX} {σ : sg} {r0 : Int32} (C : gC X cX7_fits 2 RX7 (some .boolean) rm_X7_fits)  (hQ : gQ X (qI (XG X) r0 σ))  (hf : J_X7_fits_46 σ = some r0) : G X 2 σ 46 [] [] := by
  unfold J_X7_fits_46 at hf
  refine g_iconst C (v := 1) dX7_fits_46 rfl ?_
  refine g_goto C 51 dX7_fits_47 (by decide) ?_
  have e0 : r0 = (1 : Int32) := (Option.some.inj hf).symm
  exact g_iret C rfl hQ (by rw [e0]) rfl dX7_fits_51
theorem w_X7_fits_e {X : gX} {σ : sg} {p0 : Int32} {p1 : Int32} {r0 : Int32} (C : gC X cX7_fits 2 RX7 (some .boolean) rm_X7_fits)  (hQ : gQ X (qI (XG X) r0 σ)) (hf : f_X7_fits σ p0 p1 = some r0) : G X 2 σ 0 [(0, .int p0), (1, .int p1)] [] := by
  unfold f_X7_fits at hf
  refine g_iload_n C 1 dX7_fits_0 rfl ?_
  refine g_if hf (fun hf e1 => ?_) (fun hf n0 => ?_)
  · refine g_tcase C (0 : Int32) 28 dX7_fits_1 e1 (by decide) (by decide) rfl (by decide) ?_
    refine g_iload_n C 0 dX7_fits_28 rfl ?_
    refine g_bipush C (v := 6) dX7_fits_29 rfl ?_
    refine g_icmp_le C 46 hf dX7_fits_31 (by decide) (fun hf => ?_) (fun hf => ?_)
    · refine g_sub [] rfl ?_
      exact w_X7_fits_46 C  hQ  hf
    · refine g_iload_n C 0 dX7_fits_34 rfl ?_
      refine g_bipush C (v := 8) dX7_fits_35 rfl ?_
      refine g_icmp_eq C 46 hf dX7_fits_37 (by decide) (fun hf => ?_) (fun hf => ?_)
      · refine g_sub [] rfl ?_
        exact w_X7_fits_46 C  hQ  hf
      · refine g_iload_n C 0 dX7_fits_40 rfl ?_
        refine g_bipush C (v := 9) dX7_fits_41 rfl ?_
        refine g_icmp_ne C 50 hf dX7_fits_43 (by decide) (fun hf => ?_) (fun hf => ?_)
        · refine g_sub [] rfl ?_
          exact w_X7_fits_46 C  hQ  hf
        · refine g_iconst C (v := 0) dX7_fits_50 rfl ?_
          have e0 : r0 = (0 : Int32) := (Option.some.inj hf).symm
          exact g_iret C rfl hQ (by rw [e0]) rfl dX7_fits_51
  · refine g_if hf (fun hf e1 => ?_) (fun hf n1 => ?_)
    · refine g_tcase C (1 : Int32) 52 dX7_fits_1 e1 (by decide) (by decide) rfl (by decide) ?_
      refine g_iload_n C 0 dX7_fits_52 rfl ?_
      refine g_bipush C (v := 6) dX7_fits_53 rfl ?_
      refine g_icmp_gt C 62 hf dX7_fits_55 (by decide) (fun hf => ?_) (fun hf => ?_)
      · refine g_iconst C (v := 0) dX7_fits_62 rfl ?_
        have e0 : r0 = (0 : Int32) := (Option.some.inj hf).symm
        exact g_iret C rfl hQ (by rw [e0]) rfl dX7_fits_63
      · refine g_iconst C (v := 1) dX7_fits_58 rfl ?_
        refine g_goto C 63 dX7_fits_59 (by decide) ?_
        have e0 : r0 = (1 : Int32) := (Option.some.inj hf).symm
        exact g_iret C rfl hQ (by rw [e0]) rfl dX7_fits_63
    · refine g_if hf (fun hf e1 => ?_) (fun hf n2 => ?_)
      · refine g_tcase C (2 : Int32) 64 dX7_fits_1 e1 (by decide) (by decide) rfl (by decide) ?_
        refine g_iload_n C 0 dX7_fits_64 rfl ?_
        refine g_bipush C (v := 7) dX7_fits_65 rfl ?_
        refine g_icmp_ne C 74 hf dX7_fits_67 (by decide) (fun hf => ?_) (fun hf => ?_)
        · refine g_iconst C (v := 1) dX7_fits_70 rfl ?_
          refine g_goto C 75 dX7_fits_71 (by decide) ?_
          have e0 : r0 = (1 : Int32) := (Option.some.inj hf).symm
          exact g_iret C rfl hQ (by rw [e0]) rfl dX7_fits_75
        · refine g_iconst C (v := 0) dX7_fits_74 rfl ?_
          have e0 : r0 = (0 : Int32) := (Option.some.inj hf).symm
          exact g_iret C rfl hQ (by rw [e0]) rfl dX7_fits_75
      · refine g_tout C 76 dX7_fits_1 (by have := lv_neT (a := 0) n0 rfl; have := lv_neT (a := 1) n1 rfl; have := lv_neT (a := 2) n2 rfl; omega) (by decide) ?_
        refine g_iload_n C 0 dX7_fits_76 rfl ?_
        refine g_bipush C (v := 10) dX7_fits_77 rfl ?_
        refine g_icmp_lt C 86 hf dX7_fits_79 (by decide) (fun hf => ?_) (fun hf => ?_)
        · refine g_iconst C (v := 0) dX7_fits_86 rfl ?_
          have e0 : r0 = (0 : Int32) := (Option.some.inj hf).symm
          exact g_iret C rfl hQ (by rw [e0]) rfl dX7_fits_87
        · refine g_iconst C (v := 1) dX7_fits_82 rfl ?_
          refine g_goto C 87 dX7_fits_83 (by decide) ?_
          have e0 : r0 = (1 : Int32) := (Option.some.inj hf).symm
          exact g_iret C rfl hQ (by rw [e0]) rfl dX7_fits_87
theorem c_X7_fits (l : Launch) {Gw : gW} (hI : g_I Gw) {σ : sg} {p0 : Int32} {p1 : Int32} {r : Int32}  (hf : f_X7_fits σ p0 p1 = some r) : gM l Gw yX7_fits cX7_fits 2 (some .boolean) rm_X7_fits [.int p0, .int p1] σ (qI (Gw) r σ) := by
  refine g_met hI (by decide) (Nat.le_of_ble_eq_true rfl) (fun X h1 h2 C hQ => ?_)
  subst h1; subst h2
  exact w_X7_fits_e C  hQ hf
theorem dX6_written_0 : decode cX6_written 0 = .ok (.aload_n 0, 1) := by decide +kernel
theorem dX6_written_1 : decode cX6_written 1 = .ok (.getfield 11, 3) := by decide +kernel
theorem dX6_written_4 : decode cX6_written 4 = .ok (.iload_n 1, 1) := by decide +kernel
theorem dX6_written_5 : decode cX6_written 5 = .ok (.aaload, 1) := by decide +kernel
theorem dX6_written_6 : decode cX6_written 6 = .ok (.astore_n 2, 1) := by decide +kernel
theorem dX6_written_7 : decode cX6_written 7 = .ok (.aload_n 2, 1) := by decide +kernel
theorem dX6_written_8 : decode cX6_written 8 = .ok (.iconst 0, 1) := by decide +kernel
theorem dX6_written_9 : decode cX6_written 9 = .ok (.iaload, 1) := by decide +kernel
theorem dX6_written_10 : decode cX6_written 10 = .ok (.bipush 8, 2) := by decide +kernel
theorem dX6_written_12 : decode cX6_written 12 = .ok (.if_icmp .gt 11, 3) := by decide +kernel
theorem dX6_written_15 : decode cX6_written 15 = .ok (.iconst 1, 1) := by decide +kernel
theorem dX6_written_16 : decode cX6_written 16 = .ok (.aload_n 2, 1) := by decide +kernel
theorem dX6_written_17 : decode cX6_written 17 = .ok (.iconst 1, 1) := by decide +kernel
theorem dX6_written_18 : decode cX6_written 18 = .ok (.iaload, 1) := by decide +kernel
theorem dX6_written_19 : decode cX6_written 19 = .ok (.ishl, 1) := by decide +kernel
theorem dX6_written_20 : decode cX6_written 20 = .ok (.goto 4, 3) := by decide +kernel
theorem dX6_written_23 : decode cX6_written 23 = .ok (.iconst 0, 1) := by decide +kernel
theorem dX6_written_24 : decode cX6_written 24 = .ok (.ireturn, 1) := by decide +kernel
abbrev rm_X6_written : Room := { frames := 0, cells := 0, slots := 0, locals := 0 }
theorem w_X6_written_e {X : gX} {σ : sg} {p1 : Int32} {r0 : Int32} (C : gC X cX6_written 3 RX6 (some .int) rm_X6_written)  (hQ : gQ X (qI (XG X) r0 σ)) (hf : f_X6_written σ p1 = some r0) : G X 3 σ 0 [(0, .ref (Xd X 1)), (1, .int p1)] [] := by
  unfold f_X6_written at hf
  refine g_aload_n C 0 dX6_written_0 rfl ?_
  refine g_getr C 6 0 (2) (by decide) sh_1 rfl vc_6 (by decide) inXX6 wfl_30 dX6_written_1 ?_
  refine g_iload_n C 1 dX6_written_4 rfl ?_
  obtain ⟨q5, h1, hf⟩ := g_bind hf
  refine g_aald C h1 dX6_written_5 ?_
  clear h1
  refine g_astore_n C (lv' := [(2, .ref (Xd X q5)), (0, .ref (Xd X 1)), (1, .int p1)]) dX6_written_6 (by decide) rfl ?_
  refine g_aload_n C 0 dX6_written_7 rfl ?_
  refine g_iconst C (v := 0) dX6_written_8 rfl ?_
  obtain ⟨v9, h1, hf⟩ := g_bind hf
  refine g_iald C h1 dX6_written_9 ?_
  clear h1
  refine g_bipush C (v := 8) dX6_written_10 rfl ?_
  refine g_icmp_gt C 23 hf dX6_written_12 (by decide) (fun hf => ?_) (fun hf => ?_)
  · refine g_iconst C (v := 0) dX6_written_23 rfl ?_
    have e0 : r0 = (0 : Int32) := (Option.some.inj hf).symm
    exact g_iret C rfl hQ (by rw [e0]) rfl dX6_written_24
  · refine g_iconst C (v := 1) dX6_written_15 rfl ?_
    refine g_aload_n C 0 dX6_written_16 rfl ?_
    refine g_iconst C (v := 1) dX6_written_17 rfl ?_
    obtain ⟨v18, h1, hf⟩ := g_bind hf
    refine g_iald C h1 dX6_written_18 ?_
    clear h1
    refine g_ishl C dX6_written_19 ?_
    refine g_goto C 24 dX6_written_20 (by decide) ?_
    have e0 : r0 = (1 : Int32) <<< (v18 &&& 31) := (Option.some.inj hf).symm
    exact g_iret C rfl hQ (by rw [e0]) rfl dX6_written_24
theorem c_X6_written (l : Launch) {Gw : gW} (hI : g_I Gw) {σ : sg} {p1 : Int32} {r : Int32}  (hf : f_X6_written σ p1 = some r) : gM l Gw yX6_written cX6_written 3 (some .int) rm_X6_written [.ref (Gw.2.2 1), .int p1] σ (qI (Gw) r σ) := by
  refine g_met hI (by decide) (Nat.le_of_ble_eq_true rfl) (fun X h1 h2 C hQ => ?_)
  subst h1; subst h2
  exact w_X6_written_e C  hQ hf
theorem dX6_read_0 : decode cX6_read 0 = .ok (.aload_n 0, 1) := by decide +kernel
theorem dX6_read_1 : decode cX6_read 1 = .ok (.getfield 11, 3) := by decide +kernel
theorem dX6_read_4 : decode cX6_read 4 = .ok (.iload_n 1, 1) := by decide +kernel
theorem dX6_read_5 : decode cX6_read 5 = .ok (.aaload, 1) := by decide +kernel
theorem dX6_read_6 : decode cX6_read 6 = .ok (.astore_n 2, 1) := by decide +kernel
theorem dX6_read_7 : decode cX6_read 7 = .ok (.aload_n 2, 1) := by decide +kernel
theorem dX6_read_8 : decode cX6_read 8 = .ok (.iconst 0, 1) := by decide +kernel
theorem dX6_read_9 : decode cX6_read 9 = .ok (.iaload, 1) := by decide +kernel
theorem dX6_read_10 : decode cX6_read 10 = .ok (.tableswitch 80 0 12 #[66, 80, 80, 80, 80, 80, 80, 80, 68, 80, 66, 74, 66], 66) := by decide +kernel
theorem dX6_read_76 : decode cX6_read 76 = .ok (.iconst 0, 1) := by decide +kernel
theorem dX6_read_77 : decode cX6_read 77 = .ok (.ireturn, 1) := by decide +kernel
theorem dX6_read_78 : decode cX6_read 78 = .ok (.iconst 1, 1) := by decide +kernel
theorem dX6_read_79 : decode cX6_read 79 = .ok (.aload_n 2, 1) := by decide +kernel
theorem dX6_read_80 : decode cX6_read 80 = .ok (.iconst 2, 1) := by decide +kernel
theorem dX6_read_81 : decode cX6_read 81 = .ok (.iaload, 1) := by decide +kernel
theorem dX6_read_82 : decode cX6_read 82 = .ok (.ishl, 1) := by decide +kernel
theorem dX6_read_83 : decode cX6_read 83 = .ok (.ireturn, 1) := by decide +kernel
theorem dX6_read_84 : decode cX6_read 84 = .ok (.iconst 1, 1) := by decide +kernel
theorem dX6_read_85 : decode cX6_read 85 = .ok (.aload_n 2, 1) := by decide +kernel
theorem dX6_read_86 : decode cX6_read 86 = .ok (.iconst 3, 1) := by decide +kernel
theorem dX6_read_87 : decode cX6_read 87 = .ok (.iaload, 1) := by decide +kernel
theorem dX6_read_88 : decode cX6_read 88 = .ok (.ishl, 1) := by decide +kernel
theorem dX6_read_89 : decode cX6_read 89 = .ok (.ireturn, 1) := by decide +kernel
theorem dX6_read_90 : decode cX6_read 90 = .ok (.iconst 1, 1) := by decide +kernel
theorem dX6_read_91 : decode cX6_read 91 = .ok (.aload_n 2, 1) := by decide +kernel
theorem dX6_read_92 : decode cX6_read 92 = .ok (.iconst 2, 1) := by decide +kernel
theorem dX6_read_93 : decode cX6_read 93 = .ok (.iaload, 1) := by decide +kernel
theorem dX6_read_94 : decode cX6_read 94 = .ok (.ishl, 1) := by decide +kernel
theorem dX6_read_95 : decode cX6_read 95 = .ok (.iconst 1, 1) := by decide +kernel
theorem dX6_read_96 : decode cX6_read 96 = .ok (.aload_n 2, 1) := by decide +kernel
theorem dX6_read_97 : decode cX6_read 97 = .ok (.iconst 3, 1) := by decide +kernel
theorem dX6_read_98 : decode cX6_read 98 = .ok (.iaload, 1) := by decide +kernel
theorem dX6_read_99 : decode cX6_read 99 = .ok (.ishl, 1) := by decide +kernel
theorem dX6_read_100 : decode cX6_read 100 = .ok (.ior, 1) := by decide +kernel
theorem dX6_read_101 : decode cX6_read 101 = .ok (.ireturn, 1) := by decide +kernel
abbrev rm_X6_read : Room := { frames := 0, cells := 0, slots := 0, locals := 0 }
theorem w_X6_read_90 {X : gX} {σ : sg} {x2 : Nat} {r0 : Int32} (C : gC X cX6_read 3 RX6 (some .int) rm_X6_read)  (hQ : gQ X (qI (XG X) r0 σ))  (hf : J_X6_read_90 σ x2 = some r0) : G X 3 σ 90 [(2, .ref (Xd X x2))] [] := by
  unfold J_X6_read_90 at hf
  refine g_iconst C (v := 1) dX6_read_90 rfl ?_
  refine g_aload_n C 0 dX6_read_91 rfl ?_
  refine g_iconst C (v := 2) dX6_read_92 rfl ?_
  obtain ⟨v93, h1, hf⟩ := g_bind hf
  refine g_iald C h1 dX6_read_93 ?_
  clear h1
  refine g_ishl C dX6_read_94 ?_
  refine g_iconst C (v := 1) dX6_read_95 rfl ?_
  refine g_aload_n C 0 dX6_read_96 rfl ?_
  refine g_iconst C (v := 3) dX6_read_97 rfl ?_
  obtain ⟨v98, h1, hf⟩ := g_bind hf
  refine g_iald C h1 dX6_read_98 ?_
  clear h1
  refine g_ishl C dX6_read_99 ?_
  refine g_ior C dX6_read_100 ?_
  have e0 : r0 = ((1 : Int32) <<< (v93 &&& 31)) ||| ((1 : Int32) <<< (v98 &&& 31)) := (Option.some.inj hf).symm
  exact g_iret C rfl hQ (by rw [e0]) rfl dX6_read_101
theorem w_X6_read_e {X : gX} {σ : sg} {p1 : Int32} {r0 : Int32} (C : gC X cX6_read 3 RX6 (some .int) rm_X6_read)  (hQ : gQ X (qI (XG X) r0 σ)) (hf : f_X6_read σ p1 = some r0) : G X 3 σ 0 [(0, .ref (Xd X 1)), (1, .int p1)] [] := by
  unfold f_X6_read at hf
  refine g_aload_n C 0 dX6_read_0 rfl ?_
  refine g_getr C 6 0 (2) (by decide) sh_1 rfl vc_6 (by decide) inXX6 wfl_30 dX6_read_1 ?_
  refine g_iload_n C 1 dX6_read_4 rfl ?_
  obtain ⟨q5, h1, hf⟩ := g_bind hf
  refine g_aald C h1 dX6_read_5 ?_
  clear h1
  refine g_astore_n C (lv' := [(2, .ref (Xd X q5)), (0, .ref (Xd X 1)), (1, .int p1)]) dX6_read_6 (by decide) rfl ?_
  refine g_aload_n C 0 dX6_read_7 rfl ?_
  refine g_iconst C (v := 0) dX6_read_8 rfl ?_
  obtain ⟨v9, h1, hf⟩ := g_bind hf
  refine g_iald C h1 dX6_read_9 ?_
  clear h1
  refine g_if hf (fun hf e1 => ?_) (fun hf n0 => ?_)
  · refine g_tcase C (0 : Int32) 76 dX6_read_10 e1 (by decide) (by decide) rfl (by decide) ?_
    refine g_iconst C (v := 0) dX6_read_76 rfl ?_
    have e0 : r0 = (0 : Int32) := (Option.some.inj hf).symm
    exact g_iret C rfl hQ (by rw [e0]) rfl dX6_read_77
  · refine g_if hf (fun hf e1 => ?_) (fun hf n1 => ?_)
    · refine g_tcase C (1 : Int32) 90 dX6_read_10 e1 (by decide) (by decide) rfl (by decide) ?_
      refine g_sub [0] rfl ?_
      exact w_X6_read_90 C  hQ  hf
    · refine g_if hf (fun hf e1 => ?_) (fun hf n2 => ?_)
      · refine g_tcase C (2 : Int32) 90 dX6_read_10 e1 (by decide) (by decide) rfl (by decide) ?_
        refine g_sub [0] rfl ?_
        exact w_X6_read_90 C  hQ  hf
      · refine g_if hf (fun hf e1 => ?_) (fun hf n3 => ?_)
        · refine g_tcase C (3 : Int32) 90 dX6_read_10 e1 (by decide) (by decide) rfl (by decide) ?_
          refine g_sub [0] rfl ?_
          exact w_X6_read_90 C  hQ  hf
        · refine g_if hf (fun hf e1 => ?_) (fun hf n4 => ?_)
          · refine g_tcase C (4 : Int32) 90 dX6_read_10 e1 (by decide) (by decide) rfl (by decide) ?_
            refine g_sub [0] rfl ?_
            exact w_X6_read_90 C  hQ  hf
          · refine g_if hf (fun hf e1 => ?_) (fun hf n5 => ?_)
            · refine g_tcase C (5 : Int32) 90 dX6_read_10 e1 (by decide) (by decide) rfl (by decide) ?_
              refine g_sub [0] rfl ?_
              exact w_X6_read_90 C  hQ  hf
            · refine g_if hf (fun hf e1 => ?_) (fun hf n6 => ?_)
              · refine g_tcase C (6 : Int32) 90 dX6_read_10 e1 (by decide) (by decide) rfl (by decide) ?_
                refine g_sub [0] rfl ?_
                exact w_X6_read_90 C  hQ  hf
              · refine g_if hf (fun hf e1 => ?_) (fun hf n7 => ?_)
                · refine g_tcase C (7 : Int32) 90 dX6_read_10 e1 (by decide) (by decide) rfl (by decide) ?_
                  refine g_sub [0] rfl ?_
                  exact w_X6_read_90 C  hQ  hf
                · refine g_if hf (fun hf e1 => ?_) (fun hf n8 => ?_)
                  · refine g_tcase C (8 : Int32) 78 dX6_read_10 e1 (by decide) (by decide) rfl (by decide) ?_
                    refine g_iconst C (v := 1) dX6_read_78 rfl ?_
                    refine g_aload_n C 0 dX6_read_79 rfl ?_
                    refine g_iconst C (v := 2) dX6_read_80 rfl ?_
                    obtain ⟨v81, h1, hf⟩ := g_bind hf
                    refine g_iald C h1 dX6_read_81 ?_
                    clear h1
                    refine g_ishl C dX6_read_82 ?_
                    have e0 : r0 = (1 : Int32) <<< (v81 &&& 31) := (Option.some.inj hf).symm
                    exact g_iret C rfl hQ (by rw [e0]) rfl dX6_read_83
                  · refine g_if hf (fun hf e1 => ?_) (fun hf n9 => ?_)
                    · refine g_tcase C (9 : Int32) 90 dX6_read_10 e1 (by decide) (by decide) rfl (by decide) ?_
                      refine g_sub [0] rfl ?_
                      exact w_X6_read_90 C  hQ  hf
                    · refine g_if hf (fun hf e1 => ?_) (fun hf n10 => ?_)
                      · refine g_tcase C (10 : Int32) 76 dX6_read_10 e1 (by decide) (by decide) rfl (by decide) ?_
                        refine g_iconst C (v := 0) dX6_read_76 rfl ?_
                        have e0 : r0 = (0 : Int32) := (Option.some.inj hf).symm
                        exact g_iret C rfl hQ (by rw [e0]) rfl dX6_read_77
                      · refine g_if hf (fun hf e1 => ?_) (fun hf n11 => ?_)
                        · refine g_tcase C (11 : Int32) 84 dX6_read_10 e1 (by decide) (by decide) rfl (by decide) ?_
                          refine g_iconst C (v := 1) dX6_read_84 rfl ?_
                          refine g_aload_n C 0 dX6_read_85 rfl ?_
                          refine g_iconst C (v := 3) dX6_read_86 rfl ?_
                          obtain ⟨v87, h1, hf⟩ := g_bind hf
                          refine g_iald C h1 dX6_read_87 ?_
                          clear h1
                          refine g_ishl C dX6_read_88 ?_
                          have e0 : r0 = (1 : Int32) <<< (v87 &&& 31) := (Option.some.inj hf).symm
                          exact g_iret C rfl hQ (by rw [e0]) rfl dX6_read_89
                        · refine g_if hf (fun hf e1 => ?_) (fun hf n12 => ?_)
                          · refine g_tcase C (12 : Int32) 76 dX6_read_10 e1 (by decide) (by decide) rfl (by decide) ?_
                            refine g_iconst C (v := 0) dX6_read_76 rfl ?_
                            have e0 : r0 = (0 : Int32) := (Option.some.inj hf).symm
                            exact g_iret C rfl hQ (by rw [e0]) rfl dX6_read_77
                          · refine g_tout C 90 dX6_read_10 (by have := lv_neT (a := 0) n0 rfl; have := lv_neT (a := 1) n1 rfl; have := lv_neT (a := 2) n2 rfl; have := lv_neT (a := 3) n3 rfl; have := lv_neT (a := 4) n4 rfl; have := lv_neT (a := 5) n5 rfl; have := lv_neT (a := 6) n6 rfl; have := lv_neT (a := 7) n7 rfl; have := lv_neT (a := 8) n8 rfl; have := lv_neT (a := 9) n9 rfl; have := lv_neT (a := 10) n10 rfl; have := lv_neT (a := 11) n11 rfl; have := lv_neT (a := 12) n12 rfl; omega) (by decide) ?_
                            refine g_sub [0] rfl ?_
                            exact w_X6_read_90 C  hQ  hf
theorem c_X6_read (l : Launch) {Gw : gW} (hI : g_I Gw) {σ : sg} {p1 : Int32} {r : Int32}  (hf : f_X6_read σ p1 = some r) : gM l Gw yX6_read cX6_read 3 (some .int) rm_X6_read [.ref (Gw.2.2 1), .int p1] σ (qI (Gw) r σ) := by
  refine g_met hI (by decide) (Nat.le_of_ble_eq_true rfl) (fun X h1 h2 C hQ => ?_)
  subst h1; subst h2
  exact w_X6_read_e C  hQ hf
theorem dX6_gap_0 : decode cX6_gap 0 = .ok (.aload_n 0, 1) := by decide +kernel
theorem dX6_gap_1 : decode cX6_gap 1 = .ok (.getfield 11, 3) := by decide +kernel
theorem dX6_gap_4 : decode cX6_gap 4 = .ok (.iload_n 1, 1) := by decide +kernel
theorem dX6_gap_5 : decode cX6_gap 5 = .ok (.aaload, 1) := by decide +kernel
theorem dX6_gap_6 : decode cX6_gap 6 = .ok (.iconst 0, 1) := by decide +kernel
theorem dX6_gap_7 : decode cX6_gap 7 = .ok (.iaload, 1) := by decide +kernel
theorem dX6_gap_8 : decode cX6_gap 8 = .ok (.istore_n 3, 1) := by decide +kernel
theorem dX6_gap_9 : decode cX6_gap 9 = .ok (.aload_n 0, 1) := by decide +kernel
theorem dX6_gap_10 : decode cX6_gap 10 = .ok (.getfield 11, 3) := by decide +kernel
theorem dX6_gap_13 : decode cX6_gap 13 = .ok (.iload_n 2, 1) := by decide +kernel
theorem dX6_gap_14 : decode cX6_gap 14 = .ok (.aaload, 1) := by decide +kernel
theorem dX6_gap_15 : decode cX6_gap 15 = .ok (.iconst 0, 1) := by decide +kernel
theorem dX6_gap_16 : decode cX6_gap 16 = .ok (.iaload, 1) := by decide +kernel
theorem dX6_gap_17 : decode cX6_gap 17 = .ok (.istore 4, 2) := by decide +kernel
theorem dX6_gap_19 : decode cX6_gap 19 = .ok (.bipush (-4), 2) := by decide +kernel
theorem dX6_gap_21 : decode cX6_gap 21 = .ok (.istore 5, 2) := by decide +kernel
theorem dX6_gap_23 : decode cX6_gap 23 = .ok (.aload_n 0, 1) := by decide +kernel
theorem dX6_gap_24 : decode cX6_gap 24 = .ok (.iload_n 1, 1) := by decide +kernel
theorem dX6_gap_25 : decode cX6_gap 25 = .ok (.invokevirtual 34, 3) := by decide +kernel
theorem dX6_gap_28 : decode cX6_gap 28 = .ok (.aload_n 0, 1) := by decide +kernel
theorem dX6_gap_29 : decode cX6_gap 29 = .ok (.iload_n 2, 1) := by decide +kernel
theorem dX6_gap_30 : decode cX6_gap 30 = .ok (.invokevirtual 37, 3) := by decide +kernel
theorem dX6_gap_33 : decode cX6_gap 33 = .ok (.iand, 1) := by decide +kernel
theorem dX6_gap_34 : decode cX6_gap 34 = .ok (.ifCond .eq 10, 3) := by decide +kernel
theorem dX6_gap_37 : decode cX6_gap 37 = .ok (.aload_n 0, 1) := by decide +kernel
theorem dX6_gap_38 : decode cX6_gap 38 = .ok (.iload_n 1, 1) := by decide +kernel
theorem dX6_gap_39 : decode cX6_gap 39 = .ok (.invokevirtual 40, 3) := by decide +kernel
theorem dX6_gap_42 : decode cX6_gap 42 = .ok (.istore 5, 2) := by decide +kernel
theorem dX6_gap_44 : decode cX6_gap 44 = .ok (.aload_n 0, 1) := by decide +kernel
theorem dX6_gap_45 : decode cX6_gap 45 = .ok (.iload_n 1, 1) := by decide +kernel
theorem dX6_gap_46 : decode cX6_gap 46 = .ok (.invokevirtual 34, 3) := by decide +kernel
theorem dX6_gap_49 : decode cX6_gap 49 = .ok (.aload_n 0, 1) := by decide +kernel
theorem dX6_gap_50 : decode cX6_gap 50 = .ok (.iload_n 2, 1) := by decide +kernel
theorem dX6_gap_51 : decode cX6_gap 51 = .ok (.invokevirtual 34, 3) := by decide +kernel
theorem dX6_gap_54 : decode cX6_gap 54 = .ok (.iand, 1) := by decide +kernel
theorem dX6_gap_55 : decode cX6_gap 55 = .ok (.ifCond .eq 27, 3) := by decide +kernel
theorem dX6_gap_58 : decode cX6_gap 58 = .ok (.iload 5, 2) := by decide +kernel
theorem dX6_gap_60 : decode cX6_gap 60 = .ok (.iconst 1, 1) := by decide +kernel
theorem dX6_gap_61 : decode cX6_gap 61 = .ok (.aload_n 0, 1) := by decide +kernel
theorem dX6_gap_62 : decode cX6_gap 62 = .ok (.iload_n 1, 1) := by decide +kernel
theorem dX6_gap_63 : decode cX6_gap 63 = .ok (.invokevirtual 40, 3) := by decide +kernel
theorem dX6_gap_66 : decode cX6_gap 66 = .ok (.aload_n 0, 1) := by decide +kernel
theorem dX6_gap_67 : decode cX6_gap 67 = .ok (.iload_n 2, 1) := by decide +kernel
theorem dX6_gap_68 : decode cX6_gap 68 = .ok (.invokevirtual 40, 3) := by decide +kernel
theorem dX6_gap_71 : decode cX6_gap 71 = .ok (.isub, 1) := by decide +kernel
theorem dX6_gap_72 : decode cX6_gap 72 = .ok (.iconst 1, 1) := by decide +kernel
theorem dX6_gap_73 : decode cX6_gap 73 = .ok (.iadd, 1) := by decide +kernel
theorem dX6_gap_74 : decode cX6_gap 74 = .ok (.invokestatic 43, 3) := by decide +kernel
theorem dX6_gap_77 : decode cX6_gap 77 = .ok (.invokestatic 43, 3) := by decide +kernel
theorem dX6_gap_80 : decode cX6_gap 80 = .ok (.istore 5, 2) := by decide +kernel
theorem dX6_gap_82 : decode cX6_gap 82 = .ok (.iload_n 3, 1) := by decide +kernel
theorem dX6_gap_83 : decode cX6_gap 83 = .ok (.bipush 9, 2) := by decide +kernel
theorem dX6_gap_85 : decode cX6_gap 85 = .ok (.if_icmp .ne 25, 3) := by decide +kernel
theorem dX6_gap_88 : decode cX6_gap 88 = .ok (.iload 4, 2) := by decide +kernel
theorem dX6_gap_90 : decode cX6_gap 90 = .ok (.bipush 9, 2) := by decide +kernel
theorem dX6_gap_92 : decode cX6_gap 92 = .ok (.if_icmp .eq 10, 3) := by decide +kernel
theorem dX6_gap_95 : decode cX6_gap 95 = .ok (.iload 4, 2) := by decide +kernel
theorem dX6_gap_97 : decode cX6_gap 97 = .ok (.bipush 8, 2) := by decide +kernel
theorem dX6_gap_99 : decode cX6_gap 99 = .ok (.if_icmp .ne 11, 3) := by decide +kernel
theorem dX6_gap_102 : decode cX6_gap 102 = .ok (.iload 5, 2) := by decide +kernel
theorem dX6_gap_104 : decode cX6_gap 104 = .ok (.iconst 1, 1) := by decide +kernel
theorem dX6_gap_105 : decode cX6_gap 105 = .ok (.invokestatic 43, 3) := by decide +kernel
theorem dX6_gap_108 : decode cX6_gap 108 = .ok (.istore 5, 2) := by decide +kernel
theorem dX6_gap_110 : decode cX6_gap 110 = .ok (.aload_n 0, 1) := by decide +kernel
theorem dX6_gap_111 : decode cX6_gap 111 = .ok (.iload_n 1, 1) := by decide +kernel
theorem dX6_gap_112 : decode cX6_gap 112 = .ok (.invokevirtual 37, 3) := by decide +kernel
theorem dX6_gap_115 : decode cX6_gap 115 = .ok (.aload_n 0, 1) := by decide +kernel
theorem dX6_gap_116 : decode cX6_gap 116 = .ok (.iload_n 2, 1) := by decide +kernel
theorem dX6_gap_117 : decode cX6_gap 117 = .ok (.invokevirtual 34, 3) := by decide +kernel
theorem dX6_gap_120 : decode cX6_gap 120 = .ok (.iand, 1) := by decide +kernel
theorem dX6_gap_121 : decode cX6_gap 121 = .ok (.ifCond .ne 23, 3) := by decide +kernel
theorem dX6_gap_124 : decode cX6_gap 124 = .ok (.iload_n 3, 1) := by decide +kernel
theorem dX6_gap_125 : decode cX6_gap 125 = .ok (.bipush 8, 2) := by decide +kernel
theorem dX6_gap_127 : decode cX6_gap 127 = .ok (.if_icmp .ne 10, 3) := by decide +kernel
theorem dX6_gap_130 : decode cX6_gap 130 = .ok (.iload 4, 2) := by decide +kernel
theorem dX6_gap_132 : decode cX6_gap 132 = .ok (.bipush 9, 2) := by decide +kernel
theorem dX6_gap_134 : decode cX6_gap 134 = .ok (.if_icmp .eq 10, 3) := by decide +kernel
theorem dX6_gap_137 : decode cX6_gap 137 = .ok (.iload 4, 2) := by decide +kernel
theorem dX6_gap_139 : decode cX6_gap 139 = .ok (.bipush 10, 2) := by decide +kernel
theorem dX6_gap_141 : decode cX6_gap 141 = .ok (.if_icmp .lt 11, 3) := by decide +kernel
theorem dX6_gap_144 : decode cX6_gap 144 = .ok (.iload 5, 2) := by decide +kernel
theorem dX6_gap_146 : decode cX6_gap 146 = .ok (.iconst 0, 1) := by decide +kernel
theorem dX6_gap_147 : decode cX6_gap 147 = .ok (.invokestatic 43, 3) := by decide +kernel
theorem dX6_gap_150 : decode cX6_gap 150 = .ok (.istore 5, 2) := by decide +kernel
theorem dX6_gap_152 : decode cX6_gap 152 = .ok (.iload 5, 2) := by decide +kernel
theorem dX6_gap_154 : decode cX6_gap 154 = .ok (.ireturn, 1) := by decide +kernel
abbrev rm_X6_gap : Room := { frames := 1, cells := 0, slots := 0, locals := 60 }
theorem w_X6_gap_144 {X : gX} {σ : sg} {x5 : Int32} {r0 : Int32} (C : gC X cX6_gap 6 RX6 (some .int) rm_X6_gap)  (hQ : gQ X (qI (XG X) r0 σ))  (hf : J_X6_gap_144 σ x5 = some r0) : G X 6 σ 144 [(5, .int x5)] [] := by
  unfold J_X6_gap_144 at hf
  refine g_iload C 0 dX6_gap_144 rfl ?_
  refine g_iconst C (v := 0) dX6_gap_146 rfl ?_
  refine g_max C wml_417 wst_418 win_12 wcd_419 (Nat.le_of_ble_eq_true rfl) (Nat.le_of_ble_eq_true rfl) dX6_gap_147 ?_
  refine g_istore C (lv' := [(5, .int (imax x5 (0 : Int32)))]) dX6_gap_150 (by decide) rfl ?_
  refine g_iload C 0 dX6_gap_152 rfl ?_
  have e0 : r0 = imax x5 (0 : Int32) := (Option.some.inj hf).symm
  exact g_iret C rfl hQ (by rw [e0]) rfl dX6_gap_154
theorem w_X6_gap_137 {X : gX} {σ : sg} {x4 : Int32} {x5 : Int32} {r0 : Int32} (C : gC X cX6_gap 6 RX6 (some .int) rm_X6_gap)  (hQ : gQ X (qI (XG X) r0 σ))  (hf : J_X6_gap_137 σ x4 x5 = some r0) : G X 6 σ 137 [(4, .int x4), (5, .int x5)] [] := by
  unfold J_X6_gap_137 at hf
  refine g_iload C 0 dX6_gap_137 rfl ?_
  refine g_bipush C (v := 10) dX6_gap_139 rfl ?_
  refine g_icmp_lt C 152 hf dX6_gap_141 (by decide) (fun hf => ?_) (fun hf => ?_)
  · refine g_iload C 1 dX6_gap_152 rfl ?_
    have e0 : r0 = x5 := (Option.some.inj hf).symm
    exact g_iret C rfl hQ (by rw [e0]) rfl dX6_gap_154
  · refine g_sub [1] rfl ?_
    exact w_X6_gap_144 C  hQ  hf
theorem w_X6_gap_110 {X : gX} {σ : sg} {p1 : Int32} {p2 : Int32} {x3 : Int32} {x4 : Int32} {x5 : Int32} {r0 : Int32} (C : gC X cX6_gap 6 RX6 (some .int) rm_X6_gap)  (hQ : gQ X (qI (XG X) r0 σ))  (hf : J_X6_gap_110 σ p1 p2 x3 x4 x5 = some r0) : G X 6 σ 110 [(0, .ref (Xd X 1)), (1, .int p1), (2, .int p2), (3, .int x3), (4, .int x4), (5, .int x5)] [] := by
  unfold J_X6_gap_110 at hf
  refine g_aload_n C 0 dX6_gap_110 rfl ?_
  refine g_iload_n C 1 dX6_gap_111 rfl ?_
  obtain ⟨v112, h1, hf⟩ := g_bind hf
  refine g_callVi C 1 [.int p1] (c_X6_read (Xl X) (gC_I C)  h1) ⟨wml_409, wim_410, wse_411, win_2, wcd_412⟩ (by decide) sh_1 vc_6 rfl hd_X6_read ⟨rfl, rfl⟩ ⟨Nat.le_of_ble_eq_true rfl, Nat.le_of_ble_eq_true rfl⟩ rfl rfl (Nat.le_of_ble_eq_true rfl) dX6_gap_112 ?_
  clear h1
  refine g_aload_n C 0 dX6_gap_115 rfl ?_
  refine g_iload_n C 2 dX6_gap_116 rfl ?_
  obtain ⟨v117, h1, hf⟩ := g_bind hf
  refine g_callVi C 1 [.int p2] (c_X6_written (Xl X) (gC_I C)  h1) ⟨wml_405, wim_406, wse_407, win_2, wcd_408⟩ (by decide) sh_1 vc_6 rfl hd_X6_written ⟨rfl, rfl⟩ ⟨Nat.le_of_ble_eq_true rfl, Nat.le_of_ble_eq_true rfl⟩ rfl rfl (Nat.le_of_ble_eq_true rfl) dX6_gap_117 ?_
  clear h1
  refine g_iand C dX6_gap_120 ?_
  refine g_if_ne C 144 hf dX6_gap_121 (by decide) (fun hf => ?_) (fun hf => ?_)
  · refine g_iload_n C 3 dX6_gap_124 rfl ?_
    refine g_bipush C (v := 8) dX6_gap_125 rfl ?_
    refine g_icmp_ne C 137 hf dX6_gap_127 (by decide) (fun hf => ?_) (fun hf => ?_)
    · refine g_iload C 4 dX6_gap_130 rfl ?_
      refine g_bipush C (v := 9) dX6_gap_132 rfl ?_
      refine g_icmp_eq C 144 hf dX6_gap_134 (by decide) (fun hf => ?_) (fun hf => ?_)
      · refine g_sub [5] rfl ?_
        exact w_X6_gap_144 C  hQ  hf
      · refine g_sub [4, 5] rfl ?_
        exact w_X6_gap_137 C  hQ  hf
    · refine g_sub [4, 5] rfl ?_
      exact w_X6_gap_137 C  hQ  hf
  · refine g_sub [5] rfl ?_
    exact w_X6_gap_144 C  hQ  hf
theorem w_X6_gap_102 {X : gX} {σ : sg} {p1 : Int32} {p2 : Int32} {x3 : Int32} {x4 : Int32} {x5 : Int32} {r0 : Int32} (C : gC X cX6_gap 6 RX6 (some .int) rm_X6_gap)  (hQ : gQ X (qI (XG X) r0 σ))  (hf : J_X6_gap_102 σ p1 p2 x3 x4 x5 = some r0) : G X 6 σ 102 [(0, .ref (Xd X 1)), (1, .int p1), (2, .int p2), (3, .int x3), (4, .int x4), (5, .int x5)] [] := by
  unfold J_X6_gap_102 at hf
  refine g_iload C 5 dX6_gap_102 rfl ?_
  refine g_iconst C (v := 1) dX6_gap_104 rfl ?_
  refine g_max C wml_417 wst_418 win_12 wcd_419 (Nat.le_of_ble_eq_true rfl) (Nat.le_of_ble_eq_true rfl) dX6_gap_105 ?_
  refine g_istore C (lv' := [(5, .int (imax x5 (1 : Int32))), (0, .ref (Xd X 1)), (1, .int p1), (2, .int p2), (3, .int x3), (4, .int x4)]) dX6_gap_108 (by decide) rfl ?_
  refine g_sub [1, 2, 3, 4, 5, 0] rfl ?_
  exact w_X6_gap_110 C  hQ  hf
theorem w_X6_gap_82 {X : gX} {σ : sg} {p1 : Int32} {p2 : Int32} {x3 : Int32} {x4 : Int32} {x5 : Int32} {r0 : Int32} (C : gC X cX6_gap 6 RX6 (some .int) rm_X6_gap)  (hQ : gQ X (qI (XG X) r0 σ))  (hf : J_X6_gap_82 σ p1 p2 x3 x4 x5 = some r0) : G X 6 σ 82 [(0, .ref (Xd X 1)), (1, .int p1), (2, .int p2), (3, .int x3), (4, .int x4), (5, .int x5)] [] := by
  unfold J_X6_gap_82 at hf
  refine g_iload_n C 3 dX6_gap_82 rfl ?_
  refine g_bipush C (v := 9) dX6_gap_83 rfl ?_
  refine g_icmp_ne C 110 hf dX6_gap_85 (by decide) (fun hf => ?_) (fun hf => ?_)
  · refine g_iload C 4 dX6_gap_88 rfl ?_
    refine g_bipush C (v := 9) dX6_gap_90 rfl ?_
    refine g_icmp_eq C 102 hf dX6_gap_92 (by decide) (fun hf => ?_) (fun hf => ?_)
    · exact w_X6_gap_102 C  hQ  hf
    · refine g_iload C 4 dX6_gap_95 rfl ?_
      refine g_bipush C (v := 8) dX6_gap_97 rfl ?_
      refine g_icmp_ne C 110 hf dX6_gap_99 (by decide) (fun hf => ?_) (fun hf => ?_)
      · exact w_X6_gap_102 C  hQ  hf
      · exact w_X6_gap_110 C  hQ  hf
  · exact w_X6_gap_110 C  hQ  hf
theorem w_X6_gap_44 {X : gX} {σ : sg} {p1 : Int32} {p2 : Int32} {x3 : Int32} {x4 : Int32} {x5 : Int32} {r0 : Int32} (C : gC X cX6_gap 6 RX6 (some .int) rm_X6_gap)  (hQ : gQ X (qI (XG X) r0 σ))  (hf : J_X6_gap_44 σ p1 p2 x3 x4 x5 = some r0) : G X 6 σ 44 [(0, .ref (Xd X 1)), (1, .int p1), (2, .int p2), (3, .int x3), (4, .int x4), (5, .int x5)] [] := by
  unfold J_X6_gap_44 at hf
  refine g_aload_n C 0 dX6_gap_44 rfl ?_
  refine g_iload_n C 1 dX6_gap_45 rfl ?_
  obtain ⟨v46, h1, hf⟩ := g_bind hf
  refine g_callVi C 1 [.int p1] (c_X6_written (Xl X) (gC_I C)  h1) ⟨wml_405, wim_406, wse_407, win_2, wcd_408⟩ (by decide) sh_1 vc_6 rfl hd_X6_written ⟨rfl, rfl⟩ ⟨Nat.le_of_ble_eq_true rfl, Nat.le_of_ble_eq_true rfl⟩ rfl rfl (Nat.le_of_ble_eq_true rfl) dX6_gap_46 ?_
  clear h1
  refine g_aload_n C 0 dX6_gap_49 rfl ?_
  refine g_iload_n C 2 dX6_gap_50 rfl ?_
  obtain ⟨v51, h1, hf⟩ := g_bind hf
  refine g_callVi C 1 [.int p2] (c_X6_written (Xl X) (gC_I C)  h1) ⟨wml_405, wim_406, wse_407, win_2, wcd_408⟩ (by decide) sh_1 vc_6 rfl hd_X6_written ⟨rfl, rfl⟩ ⟨Nat.le_of_ble_eq_true rfl, Nat.le_of_ble_eq_true rfl⟩ rfl rfl (Nat.le_of_ble_eq_true rfl) dX6_gap_51 ?_
  clear h1
  refine g_iand C dX6_gap_54 ?_
  refine g_if_eq C 82 hf dX6_gap_55 (by decide) (fun hf => ?_) (fun hf => ?_)
  · exact w_X6_gap_82 C  hQ  hf
  · refine g_iload C 5 dX6_gap_58 rfl ?_
    refine g_iconst C (v := 1) dX6_gap_60 rfl ?_
    refine g_aload_n C 0 dX6_gap_61 rfl ?_
    refine g_iload_n C 1 dX6_gap_62 rfl ?_
    obtain ⟨v63, h1, hf⟩ := g_bind hf
    refine g_callVi C 1 [.int p1] (c_X6_latency (Xl X) (gC_I C)  h1) ⟨wml_413, wim_414, wse_415, win_2, wcd_416⟩ (by decide) sh_1 vc_6 rfl hd_X6_latency ⟨rfl, rfl⟩ ⟨Nat.le_of_ble_eq_true rfl, Nat.le_of_ble_eq_true rfl⟩ rfl rfl (Nat.le_of_ble_eq_true rfl) dX6_gap_63 ?_
    clear h1
    refine g_aload_n C 0 dX6_gap_66 rfl ?_
    refine g_iload_n C 2 dX6_gap_67 rfl ?_
    obtain ⟨v68, h1, hf⟩ := g_bind hf
    refine g_callVi C 1 [.int p2] (c_X6_latency (Xl X) (gC_I C)  h1) ⟨wml_413, wim_414, wse_415, win_2, wcd_416⟩ (by decide) sh_1 vc_6 rfl hd_X6_latency ⟨rfl, rfl⟩ ⟨Nat.le_of_ble_eq_true rfl, Nat.le_of_ble_eq_true rfl⟩ rfl rfl (Nat.le_of_ble_eq_true rfl) dX6_gap_68 ?_
    clear h1
    refine g_isub C dX6_gap_71 ?_
    refine g_iconst C (v := 1) dX6_gap_72 rfl ?_
    refine g_iadd C dX6_gap_73 ?_
    refine g_max C wml_417 wst_418 win_12 wcd_419 (Nat.le_of_ble_eq_true rfl) (Nat.le_of_ble_eq_true rfl) dX6_gap_74 ?_
    refine g_max C wml_417 wst_418 win_12 wcd_419 (Nat.le_of_ble_eq_true rfl) (Nat.le_of_ble_eq_true rfl) dX6_gap_77 ?_
    refine g_istore C (lv' := [(5, .int (imax x5 (imax (1 : Int32) ((v63 - v68) + (1 : Int32))))), (0, .ref (Xd X 1)), (1, .int p1), (2, .int p2), (3, .int x3), (4, .int x4)]) dX6_gap_80 (by decide) rfl ?_
    refine g_sub [1, 2, 3, 4, 5, 0] rfl ?_
    exact w_X6_gap_82 C  hQ  hf
theorem w_X6_gap_e {X : gX} {σ : sg} {p1 : Int32} {p2 : Int32} {r0 : Int32} (C : gC X cX6_gap 6 RX6 (some .int) rm_X6_gap)  (hQ : gQ X (qI (XG X) r0 σ)) (hf : f_X6_gap σ p1 p2 = some r0) : G X 6 σ 0 [(0, .ref (Xd X 1)), (1, .int p1), (2, .int p2)] [] := by
  unfold f_X6_gap at hf
  refine g_aload_n C 0 dX6_gap_0 rfl ?_
  refine g_getr C 6 0 (2) (by decide) sh_1 rfl vc_6 (by decide) inXX6 wfl_30 dX6_gap_1 ?_
  refine g_iload_n C 1 dX6_gap_4 rfl ?_
  obtain ⟨q5, h1, hf⟩ := g_bind hf
  refine g_aald C h1 dX6_gap_5 ?_
  clear h1
  refine g_iconst C (v := 0) dX6_gap_6 rfl ?_
  obtain ⟨v7, h1, hf⟩ := g_bind hf
  refine g_iald C h1 dX6_gap_7 ?_
  clear h1
  refine g_istore_n C (lv' := [(3, .int v7), (0, .ref (Xd X 1)), (1, .int p1), (2, .int p2)]) dX6_gap_8 (by decide) rfl ?_
  refine g_aload_n C 1 dX6_gap_9 rfl ?_
  refine g_getr C 6 0 (2) (by decide) sh_1 rfl vc_6 (by decide) inXX6 wfl_30 dX6_gap_10 ?_
  refine g_iload_n C 3 dX6_gap_13 rfl ?_
  obtain ⟨q14, h1, hf⟩ := g_bind hf
  refine g_aald C h1 dX6_gap_14 ?_
  clear h1
  refine g_iconst C (v := 0) dX6_gap_15 rfl ?_
  obtain ⟨v16, h1, hf⟩ := g_bind hf
  refine g_iald C h1 dX6_gap_16 ?_
  clear h1
  refine g_istore C (lv' := [(4, .int v16), (3, .int v7), (0, .ref (Xd X 1)), (1, .int p1), (2, .int p2)]) dX6_gap_17 (by decide) rfl ?_
  refine g_bipush C (v := (-4)) dX6_gap_19 rfl ?_
  refine g_istore C (lv' := [(5, .int (-4 : Int32)), (4, .int v16), (3, .int v7), (0, .ref (Xd X 1)), (1, .int p1), (2, .int p2)]) dX6_gap_21 (by decide) rfl ?_
  refine g_aload_n C 3 dX6_gap_23 rfl ?_
  refine g_iload_n C 4 dX6_gap_24 rfl ?_
  obtain ⟨v25, h1, hf⟩ := g_bind hf
  refine g_callVi C 1 [.int p1] (c_X6_written (Xl X) (gC_I C)  h1) ⟨wml_405, wim_406, wse_407, win_2, wcd_408⟩ (by decide) sh_1 vc_6 rfl hd_X6_written ⟨rfl, rfl⟩ ⟨Nat.le_of_ble_eq_true rfl, Nat.le_of_ble_eq_true rfl⟩ rfl rfl (Nat.le_of_ble_eq_true rfl) dX6_gap_25 ?_
  clear h1
  refine g_aload_n C 3 dX6_gap_28 rfl ?_
  refine g_iload_n C 5 dX6_gap_29 rfl ?_
  obtain ⟨v30, h1, hf⟩ := g_bind hf
  refine g_callVi C 1 [.int p2] (c_X6_read (Xl X) (gC_I C)  h1) ⟨wml_409, wim_410, wse_411, win_2, wcd_412⟩ (by decide) sh_1 vc_6 rfl hd_X6_read ⟨rfl, rfl⟩ ⟨Nat.le_of_ble_eq_true rfl, Nat.le_of_ble_eq_true rfl⟩ rfl rfl (Nat.le_of_ble_eq_true rfl) dX6_gap_30 ?_
  clear h1
  refine g_iand C dX6_gap_33 ?_
  refine g_if_eq C 44 hf dX6_gap_34 (by decide) (fun hf => ?_) (fun hf => ?_)
  · refine g_sub [3, 4, 5, 2, 1, 0] rfl ?_
    exact w_X6_gap_44 C  hQ  hf
  · refine g_aload_n C 3 dX6_gap_37 rfl ?_
    refine g_iload_n C 4 dX6_gap_38 rfl ?_
    obtain ⟨v39, h1, hf⟩ := g_bind hf
    refine g_callVi C 1 [.int p1] (c_X6_latency (Xl X) (gC_I C)  h1) ⟨wml_413, wim_414, wse_415, win_2, wcd_416⟩ (by decide) sh_1 vc_6 rfl hd_X6_latency ⟨rfl, rfl⟩ ⟨Nat.le_of_ble_eq_true rfl, Nat.le_of_ble_eq_true rfl⟩ rfl rfl (Nat.le_of_ble_eq_true rfl) dX6_gap_39 ?_
    clear h1
    refine g_istore C (lv' := [(5, .int v39), (4, .int v16), (3, .int v7), (0, .ref (Xd X 1)), (1, .int p1), (2, .int p2)]) dX6_gap_42 (by decide) rfl ?_
    refine g_sub [3, 4, 5, 2, 1, 0] rfl ?_
    exact w_X6_gap_44 C  hQ  hf
theorem c_X6_gap (l : Launch) {Gw : gW} (hI : g_I Gw) {σ : sg} {p1 : Int32} {p2 : Int32} {r : Int32}  (hf : f_X6_gap σ p1 p2 = some r) : gM l Gw yX6_gap cX6_gap 6 (some .int) rm_X6_gap [.ref (Gw.2.2 1), .int p1, .int p2] σ (qI (Gw) r σ) := by
  refine g_met hI (by decide) (Nat.le_of_ble_eq_true rfl) (fun X h1 h2 C hQ => ?_)
  subst h1; subst h2
  exact w_X6_gap_e C  hQ hf
theorem dX2_isReady_0 : decode cX2_isReady 0 = .ok (.aload_n 0, 1) := by decide +kernel
theorem dX2_isReady_1 : decode cX2_isReady 1 = .ok (.getfield 33, 3) := by decide +kernel
theorem dX2_isReady_4 : decode cX2_isReady 4 = .ok (.iconst 1, 1) := by decide +kernel
theorem dX2_isReady_5 : decode cX2_isReady 5 = .ok (.isub, 1) := by decide +kernel
theorem dX2_isReady_6 : decode cX2_isReady 6 = .ok (.istore_n 1, 1) := by decide +kernel
theorem dX2_isReady_7 : decode cX2_isReady 7 = .ok (.iload_n 1, 1) := by decide +kernel
theorem dX2_isReady_8 : decode cX2_isReady 8 = .ok (.aload_n 0, 1) := by decide +kernel
theorem dX2_isReady_9 : decode cX2_isReady 9 = .ok (.getfield 26, 3) := by decide +kernel
theorem dX2_isReady_12 : decode cX2_isReady 12 = .ok (.if_icmp .lt 60, 3) := by decide +kernel
theorem dX2_isReady_15 : decode cX2_isReady 15 = .ok (.aload_n 0, 1) := by decide +kernel
theorem dX2_isReady_16 : decode cX2_isReady 16 = .ok (.getfield 9, 3) := by decide +kernel
theorem dX2_isReady_19 : decode cX2_isReady 19 = .ok (.iload_n 1, 1) := by decide +kernel
theorem dX2_isReady_20 : decode cX2_isReady 20 = .ok (.iaload, 1) := by decide +kernel
theorem dX2_isReady_21 : decode cX2_isReady 21 = .ok (.iconst 3, 1) := by decide +kernel
theorem dX2_isReady_22 : decode cX2_isReady 22 = .ok (.iadd, 1) := by decide +kernel
theorem dX2_isReady_23 : decode cX2_isReady 23 = .ok (.aload_n 0, 1) := by decide +kernel
theorem dX2_isReady_24 : decode cX2_isReady 24 = .ok (.getfield 36, 3) := by decide +kernel
theorem dX2_isReady_27 : decode cX2_isReady 27 = .ok (.if_icmp .le 45, 3) := by decide +kernel
theorem dX2_isReady_30 : decode cX2_isReady 30 = .ok (.aload_n 0, 1) := by decide +kernel
theorem dX2_isReady_31 : decode cX2_isReady 31 = .ok (.getfield 18, 3) := by decide +kernel
theorem dX2_isReady_34 : decode cX2_isReady 34 = .ok (.iload_n 1, 1) := by decide +kernel
theorem dX2_isReady_35 : decode cX2_isReady 35 = .ok (.aload_n 0, 1) := by decide +kernel
theorem dX2_isReady_36 : decode cX2_isReady 36 = .ok (.getfield 33, 3) := by decide +kernel
theorem dX2_isReady_39 : decode cX2_isReady 39 = .ok (.invokevirtual 62, 3) := by decide +kernel
theorem dX2_isReady_42 : decode cX2_isReady 42 = .ok (.istore_n 2, 1) := by decide +kernel
theorem dX2_isReady_43 : decode cX2_isReady 43 = .ok (.iload_n 2, 1) := by decide +kernel
theorem dX2_isReady_44 : decode cX2_isReady 44 = .ok (.bipush (-4), 2) := by decide +kernel
theorem dX2_isReady_46 : decode cX2_isReady 46 = .ok (.if_icmp .eq 20, 3) := by decide +kernel
theorem dX2_isReady_49 : decode cX2_isReady 49 = .ok (.aload_n 0, 1) := by decide +kernel
theorem dX2_isReady_50 : decode cX2_isReady 50 = .ok (.getfield 9, 3) := by decide +kernel
theorem dX2_isReady_53 : decode cX2_isReady 53 = .ok (.iload_n 1, 1) := by decide +kernel
theorem dX2_isReady_54 : decode cX2_isReady 54 = .ok (.iaload, 1) := by decide +kernel
theorem dX2_isReady_55 : decode cX2_isReady 55 = .ok (.iload_n 2, 1) := by decide +kernel
theorem dX2_isReady_56 : decode cX2_isReady 56 = .ok (.iadd, 1) := by decide +kernel
theorem dX2_isReady_57 : decode cX2_isReady 57 = .ok (.aload_n 0, 1) := by decide +kernel
theorem dX2_isReady_58 : decode cX2_isReady 58 = .ok (.getfield 36, 3) := by decide +kernel
theorem dX2_isReady_61 : decode cX2_isReady 61 = .ok (.if_icmp .le 5, 3) := by decide +kernel
theorem dX2_isReady_64 : decode cX2_isReady 64 = .ok (.iconst 0, 1) := by decide +kernel
theorem dX2_isReady_65 : decode cX2_isReady 65 = .ok (.ireturn, 1) := by decide +kernel
theorem dX2_isReady_66 : decode cX2_isReady 66 = .ok (.iinc 1 (-1), 3) := by decide +kernel
theorem dX2_isReady_69 : decode cX2_isReady 69 = .ok (.goto (-62), 3) := by decide +kernel
theorem dX2_isReady_72 : decode cX2_isReady 72 = .ok (.iconst 1, 1) := by decide +kernel
theorem dX2_isReady_73 : decode cX2_isReady 73 = .ok (.ireturn, 1) := by decide +kernel
abbrev rm_X2_isReady : Room := { frames := 2, cells := 0, slots := 0, locals := 85 }
theorem w_X2_isReady_66 {X : gX} {σ : sg} {x1 : Int32} {r0 : Int32} {r1 : (Int32 ⊕ Int32)} (C : gC X cX2_isReady 3 RX2 (some .boolean) rm_X2_isReady)  (hQ : gQ X (qI (XG X) r0 σ)) (A1 : ∀ b, r1 = .inl b → G X 3 σ 7 [(0, .ref (Xd X 72)), (1, .int b)] []) (B1 : ∀ b, r1 = .inr b → b = r0) (hf : J_X2_isReady_66 σ x1 = some r1) : G X 3 σ 66 [(0, .ref (Xd X 72)), (1, .int x1)] [] := by
  unfold J_X2_isReady_66 at hf
  refine g_iinc C (v := x1 + (-1 : Int32)) (lv' := [(1, .int (x1 + (-1 : Int32))), (0, .ref (Xd X 72))]) 1 dX2_isReady_66 rfl rfl (by decide) rfl ?_
  refine g_goto C 7 dX2_isReady_69 (by decide) ?_
  refine g_sub [1, 0] rfl ?_
  exact A1 (x1 + (-1 : Int32)) (Option.some.inj hf).symm
theorem w_X2_isReady_7 {X : gX} {σ : sg} {x1 : Int32} {r0 : Int32} {r1 : (Int32 ⊕ Int32)} (C : gC X cX2_isReady 3 RX2 (some .boolean) rm_X2_isReady)  (hQ : gQ X (qI (XG X) r0 σ)) (A1 : ∀ b, r1 = .inl b → G X 3 σ 7 [(0, .ref (Xd X 72)), (1, .int b)] []) (B1 : ∀ b, r1 = .inr b → b = r0) (hf : B_X2_isReady_7 σ x1 = some r1) : G X 3 σ 7 [(0, .ref (Xd X 72)), (1, .int x1)] [] := by
  unfold B_X2_isReady_7 at hf
  refine g_iload_n C 1 dX2_isReady_7 rfl ?_
  refine g_aload_n C 0 dX2_isReady_8 rfl ?_
  refine g_geti C 2 4 (by decide) sh_72 rfl vc_2 (by decide) inXX2 wfl_133 dX2_isReady_9 ?_
  refine g_icmp_lt C 72 hf dX2_isReady_12 (by decide) (fun hf => ?_) (fun hf => ?_)
  · refine g_iconst C (v := 1) dX2_isReady_72 rfl ?_
    have e0 : r0 = (1 : Int32) := (B1 _ (Option.some.inj hf).symm).symm
    exact g_iret C rfl hQ (by rw [e0]) rfl dX2_isReady_73
  · refine g_aload_n C 0 dX2_isReady_15 rfl ?_
    refine g_getr C 2 2 (73) (by decide) sh_72 rfl vc_2 (by decide) inXX2 wfl_129 dX2_isReady_16 ?_
    refine g_iload_n C 1 dX2_isReady_19 rfl ?_
    obtain ⟨v20, h1, hf⟩ := g_bind hf
    refine g_iald C h1 dX2_isReady_20 ?_
    clear h1
    refine g_iconst C (v := 3) dX2_isReady_21 rfl ?_
    refine g_iadd C dX2_isReady_22 ?_
    refine g_aload_n C 0 dX2_isReady_23 rfl ?_
    refine g_geti C 2 7 (by decide) sh_72 rfl vc_2 (by decide) inXX2 wfl_141 dX2_isReady_24 ?_
    refine g_icmp_le C 72 hf dX2_isReady_27 (by decide) (fun hf => ?_) (fun hf => ?_)
    · refine g_iconst C (v := 1) dX2_isReady_72 rfl ?_
      have e0 : r0 = (1 : Int32) := (B1 _ (Option.some.inj hf).symm).symm
      exact g_iret C rfl hQ (by rw [e0]) rfl dX2_isReady_73
    · refine g_aload_n C 0 dX2_isReady_30 rfl ?_
      refine g_getr C 2 0 (1) (by decide) sh_72 rfl vc_2 (by decide) inXX2 wfl_126 dX2_isReady_31 ?_
      refine g_iload_n C 1 dX2_isReady_34 rfl ?_
      refine g_aload_n C 0 dX2_isReady_35 rfl ?_
      refine g_geti C 2 6 (by decide) sh_72 rfl vc_2 (by decide) inXX2 wfl_138 dX2_isReady_36 ?_
      obtain ⟨v39, h1, hf⟩ := g_bind hf
      refine g_callVi C 2 [.int x1, .int (σ 72 6)] (c_X6_gap (Xl X) (gC_I C)  h1) ⟨wml_475, wim_402, wse_403, win_2, wcd_404⟩ (by decide) sh_1 vc_6 rfl hd_X6_gap ⟨rfl, rfl⟩ ⟨Nat.le_of_ble_eq_true rfl, Nat.le_of_ble_eq_true rfl⟩ rfl rfl (Nat.le_of_ble_eq_true rfl) dX2_isReady_39 ?_
      clear h1
      refine g_istore_n C (lv' := [(2, .int v39), (0, .ref (Xd X 72)), (1, .int x1)]) dX2_isReady_42 (by decide) rfl ?_
      refine g_iload_n C 0 dX2_isReady_43 rfl ?_
      refine g_bipush C (v := (-4)) dX2_isReady_44 rfl ?_
      refine g_icmp_eq C 66 hf dX2_isReady_46 (by decide) (fun hf => ?_) (fun hf => ?_)
      · refine g_sub [1, 2] rfl ?_
        exact w_X2_isReady_66 C  hQ A1 B1 hf
      · refine g_aload_n C 1 dX2_isReady_49 rfl ?_
        refine g_getr C 2 2 (73) (by decide) sh_72 rfl vc_2 (by decide) inXX2 wfl_129 dX2_isReady_50 ?_
        refine g_iload_n C 2 dX2_isReady_53 rfl ?_
        obtain ⟨v54, h1, hf⟩ := g_bind hf
        refine g_iald C h1 dX2_isReady_54 ?_
        clear h1
        refine g_iload_n C 0 dX2_isReady_55 rfl ?_
        refine g_iadd C dX2_isReady_56 ?_
        refine g_aload_n C 1 dX2_isReady_57 rfl ?_
        refine g_geti C 2 7 (by decide) sh_72 rfl vc_2 (by decide) inXX2 wfl_141 dX2_isReady_58 ?_
        refine g_icmp_le C 66 hf dX2_isReady_61 (by decide) (fun hf => ?_) (fun hf => ?_)
        · refine g_sub [1, 2] rfl ?_
          exact w_X2_isReady_66 C  hQ A1 B1 hf
        · refine g_iconst C (v := 0) dX2_isReady_64 rfl ?_
          have e0 : r0 = (0 : Int32) := (B1 _ (Option.some.inj hf).symm).symm
          exact g_iret C rfl hQ (by rw [e0]) rfl dX2_isReady_65
theorem wl_X2_isReady_7 {X : gX} {σ : sg} {r0 : Int32} (C : gC X cX2_isReady 3 RX2 (some .boolean) rm_X2_isReady)  (hQ : gQ X (qI (XG X) r0 σ))  {n : Nat} {a : Int32} (hf : L_X2_isReady_7 σ n a = some r0) : G X 3 σ 7 [(0, .ref (Xd X 72)), (1, .int a)] [] := by
  unfold L_X2_isReady_7 at hf
  have key := g_loop_ind (res := r0) (f := fun a => B_X2_isReady_7 σ a) (P := fun a => G X 3 σ 7 [(0, .ref (Xd X 72)), (1, .int a)] []) (fun a r1 h1 k1 k2 => w_X2_isReady_7 (x1 := a) C  hQ  k1 k2 h1)
  exact key n a hf
theorem w_X2_isReady_e {X : gX} {σ : sg}  {r0 : Int32} (C : gC X cX2_isReady 3 RX2 (some .boolean) rm_X2_isReady)  (hQ : gQ X (qI (XG X) r0 σ)) (hf : f_X2_isReady σ = some r0) : G X 3 σ 0 [(0, .ref (Xd X 72))] [] := by
  unfold f_X2_isReady at hf
  refine g_aload_n C 0 dX2_isReady_0 rfl ?_
  refine g_geti C 2 6 (by decide) sh_72 rfl vc_2 (by decide) inXX2 wfl_138 dX2_isReady_1 ?_
  refine g_iconst C (v := 1) dX2_isReady_4 rfl ?_
  refine g_isub C dX2_isReady_5 ?_
  refine g_istore_n C (lv' := [(1, .int ((σ 72 6) - (1 : Int32))), (0, .ref (Xd X 72))]) dX2_isReady_6 (by decide) rfl ?_
  refine g_sub [1, 0] rfl ?_
  exact wl_X2_isReady_7 (a := (σ 72 6) - (1 : Int32)) C  hQ  hf
theorem c_X2_isReady (l : Launch) {Gw : gW} (hI : g_I Gw) {σ : sg}  {r : Int32}  (hf : f_X2_isReady σ = some r) : gM l Gw yX2_isReady cX2_isReady 3 (some .boolean) rm_X2_isReady [.ref (Gw.2.2 72)] σ (qI (Gw) r σ) := by
  refine g_met hI (by decide) (Nat.le_of_ble_eq_true rfl) (fun X h1 h2 C hQ => ?_)
  subst h1; subst h2
  exact w_X2_isReady_e C  hQ hf
