theorem dX8_setMemory_0 : decode cX8_setMemory 0 = .ok (.iload_n 1, 1) := by decide +kernel
theorem dX8_setMemory_1 : decode cX8_setMemory 1 = .ok (.ifCond .lt 9, 3) := by decide +kernel
theorem dX8_setMemory_4 : decode cX8_setMemory 4 = .ok (.iload_n 1, 1) := by decide +kernel
theorem dX8_setMemory_5 : decode cX8_setMemory 5 = .ok (.bipush 16, 2) := by decide +kernel
theorem dX8_setMemory_7 : decode cX8_setMemory 7 = .ok (.if_icmp .lt 5, 3) := by decide +kernel
theorem dX8_setMemory_10 : decode cX8_setMemory 10 = .ok (.iconst (-1), 1) := by decide +kernel
theorem dX8_setMemory_11 : decode cX8_setMemory 11 = .ok (.ireturn, 1) := by decide +kernel
theorem dX8_setMemory_12 : decode cX8_setMemory 12 = .ok (.aload_n 0, 1) := by decide +kernel
theorem dX8_setMemory_13 : decode cX8_setMemory 13 = .ok (.getfield 58, 3) := by decide +kernel
theorem dX8_setMemory_16 : decode cX8_setMemory 16 = .ok (.getfield 202, 3) := by decide +kernel
theorem dX8_setMemory_19 : decode cX8_setMemory 19 = .ok (.iload_n 1, 1) := by decide +kernel
theorem dX8_setMemory_20 : decode cX8_setMemory 20 = .ok (.iload_n 2, 1) := by decide +kernel
theorem dX8_setMemory_21 : decode cX8_setMemory 21 = .ok (.iastore, 1) := by decide +kernel
theorem dX8_setMemory_22 : decode cX8_setMemory 22 = .ok (.iconst 1, 1) := by decide +kernel
theorem dX8_setMemory_23 : decode cX8_setMemory 23 = .ok (.ireturn, 1) := by decide +kernel
abbrev rm_X8_setMemory : Room := { frames := 0, cells := 0, slots := 0, locals := 0 }
theorem w_X8_setMemory_e {X : gX} {σ : sg} {p1 : Int32} {p2 : Int32} {r0 : (Int32 × sg)} (C : gC X cX8_setMemory 3 RX8 (some .int) rm_X8_setMemory)  (hQ : gQ X (qI (XG X) r0.1 r0.2)) (hf : f_X8_setMemory σ p1 p2 = some r0) : G X 3 σ 0 [(0, .ref (Xd X 0)), (1, .int p1), (2, .int p2)] [] := by
  unfold f_X8_setMemory at hf
  refine g_iload_n C 1 dX8_setMemory_0 rfl ?_
  refine g_if_lt C 10 hf dX8_setMemory_1 (by decide) (fun hf => ?_) (fun hf => ?_)
  · refine g_iconst C (v := (-1)) dX8_setMemory_10 rfl ?_
    have e0 : r0 = ((-1 : Int32), σ) := (Option.some.inj hf).symm
    exact g_iret C rfl hQ (by rw [e0]) rfl dX8_setMemory_11
  · refine g_iload_n C 1 dX8_setMemory_4 rfl ?_
    refine g_bipush C (v := 16) dX8_setMemory_5 rfl ?_
    refine g_icmp_lt C 12 hf dX8_setMemory_7 (by decide) (fun hf => ?_) (fun hf => ?_)
    · refine g_aload_n C 0 dX8_setMemory_12 rfl ?_
      refine g_getr C 8 6 (145) (by decide) sh_0 rfl vc_8 (by decide) inXX8 wfl_265 dX8_setMemory_13 ?_
      refine g_getrN C 4 1 (145 + 2) (isM_lt (by unfold isM; decide)) (g_shM (by unfold isM; decide)) rfl vc_4 (by decide) inXX4 wfn_231 dX8_setMemory_16 ?_
      refine g_iload_n C 1 dX8_setMemory_19 rfl ?_
      refine g_iload_n C 2 dX8_setMemory_20 rfl ?_
      obtain ⟨s21, h1, hf⟩ := g_bind hf
      refine g_iast C h1 dX8_setMemory_21 ?_
      clear h1
      refine g_iconst C (v := 1) dX8_setMemory_22 rfl ?_
      have e0 : r0 = ((1 : Int32), s21) := (Option.some.inj hf).symm
      exact g_iret C rfl hQ (by rw [e0]) rfl dX8_setMemory_23
    · refine g_iconst C (v := (-1)) dX8_setMemory_10 rfl ?_
      have e0 : r0 = ((-1 : Int32), σ) := (Option.some.inj hf).symm
      exact g_iret C rfl hQ (by rw [e0]) rfl dX8_setMemory_11
theorem c_X8_setMemory (l : Launch) {Gw : gW} (hI : g_I Gw) {σ : sg} {p1 : Int32} {p2 : Int32} {r : (Int32 × sg)}  (hf : f_X8_setMemory σ p1 p2 = some r) : gM l Gw yX8_setMemory cX8_setMemory 3 (some .int) rm_X8_setMemory [.ref (Gw.2.2 0), .int p1, .int p2] σ (qI (Gw) r.1 r.2) := by
  refine g_met hI (by decide) (Nat.le_of_ble_eq_true rfl) (fun X h1 h2 C hQ => ?_)
  subst h1; subst h2
  exact w_X8_setMemory_e C  hQ hf
theorem dX8_memory_0 : decode cX8_memory 0 = .ok (.iload_n 1, 1) := by decide +kernel
theorem dX8_memory_1 : decode cX8_memory 1 = .ok (.ifCond .lt 9, 3) := by decide +kernel
theorem dX8_memory_4 : decode cX8_memory 4 = .ok (.iload_n 1, 1) := by decide +kernel
theorem dX8_memory_5 : decode cX8_memory 5 = .ok (.bipush 16, 2) := by decide +kernel
theorem dX8_memory_7 : decode cX8_memory 7 = .ok (.if_icmp .lt 7, 3) := by decide +kernel
theorem dX8_memory_10 : decode cX8_memory 10 = .ok (.ldc2_w 200, 3) := by decide +kernel
theorem dX8_memory_13 : decode cX8_memory 13 = .ok (.lreturn, 1) := by decide +kernel
theorem dX8_memory_14 : decode cX8_memory 14 = .ok (.aload_n 0, 1) := by decide +kernel
theorem dX8_memory_15 : decode cX8_memory 15 = .ok (.getfield 58, 3) := by decide +kernel
theorem dX8_memory_18 : decode cX8_memory 18 = .ok (.getfield 202, 3) := by decide +kernel
theorem dX8_memory_21 : decode cX8_memory 21 = .ok (.iload_n 1, 1) := by decide +kernel
theorem dX8_memory_22 : decode cX8_memory 22 = .ok (.iaload, 1) := by decide +kernel
theorem dX8_memory_23 : decode cX8_memory 23 = .ok (.i2l, 1) := by decide +kernel
theorem dX8_memory_24 : decode cX8_memory 24 = .ok (.lreturn, 1) := by decide +kernel
abbrev rm_X8_memory : Room := { frames := 0, cells := 0, slots := 0, locals := 0 }
theorem w_X8_memory_e {X : gX} {σ : sg} {p1 : Int32} {r0 : Int64} (C : gC X cX8_memory 2 RX8 (some .long) rm_X8_memory)  (hQ : gQ X (qL (XG X) r0 σ)) (hf : f_X8_memory σ p1 = some r0) : G X 2 σ 0 [(0, .ref (Xd X 0)), (1, .int p1)] [] := by
  unfold f_X8_memory at hf
  refine g_iload_n C 1 dX8_memory_0 rfl ?_
  refine g_if_lt C 10 hf dX8_memory_1 (by decide) (fun hf => ?_) (fun hf => ?_)
  · refine g_ldc2 C wco_573 dX8_memory_10 ?_
    have e0 : r0 = (-9223372036854775808 : Int64) := (Option.some.inj hf).symm
    exact g_lret C rfl hQ (by rw [e0]) dX8_memory_13
  · refine g_iload_n C 1 dX8_memory_4 rfl ?_
    refine g_bipush C (v := 16) dX8_memory_5 rfl ?_
    refine g_icmp_lt C 14 hf dX8_memory_7 (by decide) (fun hf => ?_) (fun hf => ?_)
    · refine g_aload_n C 0 dX8_memory_14 rfl ?_
      refine g_getr C 8 6 (145) (by decide) sh_0 rfl vc_8 (by decide) inXX8 wfl_265 dX8_memory_15 ?_
      refine g_getrN C 4 1 (145 + 2) (isM_lt (by unfold isM; decide)) (g_shM (by unfold isM; decide)) rfl vc_4 (by decide) inXX4 wfn_231 dX8_memory_18 ?_
      refine g_iload_n C 1 dX8_memory_21 rfl ?_
      obtain ⟨v22, h1, hf⟩ := g_bind hf
      refine g_iald C h1 dX8_memory_22 ?_
      clear h1
      refine g_i2l C dX8_memory_23 ?_
      have e0 : r0 = v22.toInt64 := (Option.some.inj hf).symm
      exact g_lret C rfl hQ (by rw [e0]) dX8_memory_24
    · refine g_ldc2 C wco_573 dX8_memory_10 ?_
      have e0 : r0 = (-9223372036854775808 : Int64) := (Option.some.inj hf).symm
      exact g_lret C rfl hQ (by rw [e0]) dX8_memory_13
theorem c_X8_memory (l : Launch) {Gw : gW} (hI : g_I Gw) {σ : sg} {p1 : Int32} {r : Int64}  (hf : f_X8_memory σ p1 = some r) : gM l Gw yX8_memory cX8_memory 2 (some .long) rm_X8_memory [.ref (Gw.2.2 0), .int p1] σ (qL (Gw) r σ) := by
  refine g_met hI (by decide) (Nat.le_of_ble_eq_true rfl) (fun X h1 h2 C hQ => ?_)
  subst h1; subst h2
  exact w_X8_memory_e C  hQ hf
theorem dX8_executeProgram_0 : decode cX8_executeProgram 0 = .ok (.iconst 0, 1) := by decide +kernel
theorem dX8_executeProgram_1 : decode cX8_executeProgram 1 = .ok (.istore_n 3, 1) := by decide +kernel
theorem dX8_executeProgram_2 : decode cX8_executeProgram 2 = .ok (.iconst 0, 1) := by decide +kernel
theorem dX8_executeProgram_3 : decode cX8_executeProgram 3 = .ok (.istore 4, 2) := by decide +kernel
theorem dX8_executeProgram_5 : decode cX8_executeProgram 5 = .ok (.iload 4, 2) := by decide +kernel
theorem dX8_executeProgram_7 : decode cX8_executeProgram 7 = .ok (.iload_n 2, 1) := by decide +kernel
theorem dX8_executeProgram_8 : decode cX8_executeProgram 8 = .ok (.if_icmp .ge 35, 3) := by decide +kernel
theorem dX8_executeProgram_11 : decode cX8_executeProgram 11 = .ok (.aload_n 0, 1) := by decide +kernel
theorem dX8_executeProgram_12 : decode cX8_executeProgram 12 = .ok (.getfield 10, 3) := by decide +kernel
theorem dX8_executeProgram_15 : decode cX8_executeProgram 15 = .ok (.iload_n 3, 1) := by decide +kernel
theorem dX8_executeProgram_16 : decode cX8_executeProgram 16 = .ok (.invokevirtual 100, 3) := by decide +kernel
theorem dX8_executeProgram_19 : decode cX8_executeProgram 19 = .ok (.ifCond .eq 24, 3) := by decide +kernel
theorem dX8_executeProgram_22 : decode cX8_executeProgram 22 = .ok (.aload_n 1, 1) := by decide +kernel
theorem dX8_executeProgram_23 : decode cX8_executeProgram 23 = .ok (.aload_n 0, 1) := by decide +kernel
theorem dX8_executeProgram_24 : decode cX8_executeProgram 24 = .ok (.getfield 10, 3) := by decide +kernel
theorem dX8_executeProgram_27 : decode cX8_executeProgram 27 = .ok (.getfield 108, 3) := by decide +kernel
theorem dX8_executeProgram_30 : decode cX8_executeProgram 30 = .ok (.iload_n 3, 1) := by decide +kernel
theorem dX8_executeProgram_31 : decode cX8_executeProgram 31 = .ok (.aaload, 1) := by decide +kernel
theorem dX8_executeProgram_32 : decode cX8_executeProgram 32 = .ok (.iload_n 3, 1) := by decide +kernel
theorem dX8_executeProgram_33 : decode cX8_executeProgram 33 = .ok (.invokevirtual 220, 3) := by decide +kernel
theorem dX8_executeProgram_36 : decode cX8_executeProgram 36 = .ok (.istore_n 3, 1) := by decide +kernel
theorem dX8_executeProgram_37 : decode cX8_executeProgram 37 = .ok (.iinc 4 1, 3) := by decide +kernel
theorem dX8_executeProgram_40 : decode cX8_executeProgram 40 = .ok (.goto (-35), 3) := by decide +kernel
theorem dX8_executeProgram_43 : decode cX8_executeProgram 43 = .ok (.aload_n 0, 1) := by decide +kernel
theorem dX8_executeProgram_44 : decode cX8_executeProgram 44 = .ok (.getfield 10, 3) := by decide +kernel
theorem dX8_executeProgram_47 : decode cX8_executeProgram 47 = .ok (.iload_n 3, 1) := by decide +kernel
theorem dX8_executeProgram_48 : decode cX8_executeProgram 48 = .ok (.invokevirtual 100, 3) := by decide +kernel
theorem dX8_executeProgram_51 : decode cX8_executeProgram 51 = .ok (.ifCond .eq 8, 3) := by decide +kernel
theorem dX8_executeProgram_54 : decode cX8_executeProgram 54 = .ok (.bipush (-7), 2) := by decide +kernel
theorem dX8_executeProgram_56 : decode cX8_executeProgram 56 = .ok (.goto 5, 3) := by decide +kernel
theorem dX8_executeProgram_59 : decode cX8_executeProgram 59 = .ok (.iload 4, 2) := by decide +kernel
theorem dX8_executeProgram_61 : decode cX8_executeProgram 61 = .ok (.ireturn, 1) := by decide +kernel
abbrev rm_X8_executeProgram : Room := { frames := 3, cells := 0, slots := 0, locals := 66 }
theorem w_X8_executeProgram_43 {X : gX} {x3 : Int32} {x4 : Int32} {σ : sg} {p1 : Nat} {r0 : (Int32 × sg)} (C : gC X cX8_executeProgram 5 RX8 (some .int) rm_X8_executeProgram) (hM1 : isM p1) (hQ : gQ X (qI (XG X) r0.1 r0.2))  (hf : J_X8_executeProgram_43 x3 x4 σ = some r0) : G X 5 σ 43 [(0, .ref (Xd X 0)), (3, .int x3), (4, .int x4)] [] := by
  unfold J_X8_executeProgram_43 at hf
  refine g_aload_n C 0 dX8_executeProgram_43 rfl ?_
  refine g_getr C 8 0 (1) (by decide) sh_0 rfl vc_8 (by decide) inXX8 wfl_259 dX8_executeProgram_44 ?_
  refine g_iload_n C 1 dX8_executeProgram_47 rfl ?_
  obtain ⟨v48, h1, hf⟩ := g_bind hf
  refine g_callVi C 1 [.int x3] (c_X6_has (Xl X) (gC_I C)  h1) ⟨wml_359, wim_340, wse_341, win_2, wcd_342⟩ (by decide) sh_1 vc_6 rfl hd_X6_has ⟨rfl, rfl⟩ ⟨Nat.le_of_ble_eq_true rfl, Nat.le_of_ble_eq_true rfl⟩ rfl rfl (Nat.le_of_ble_eq_true rfl) dX8_executeProgram_48 ?_
  clear h1
  refine g_if_eq C 59 hf dX8_executeProgram_51 (by decide) (fun hf => ?_) (fun hf => ?_)
  · refine g_iload C 2 dX8_executeProgram_59 rfl ?_
    have e0 : r0 = (x4, σ) := (Option.some.inj hf).symm
    exact g_iret C rfl hQ (by rw [e0]) rfl dX8_executeProgram_61
  · refine g_bipush C (v := (-7)) dX8_executeProgram_54 rfl ?_
    refine g_goto C 61 dX8_executeProgram_56 (by decide) ?_
    have e0 : r0 = ((-7 : Int32), σ) := (Option.some.inj hf).symm
    exact g_iret C rfl hQ (by rw [e0]) rfl dX8_executeProgram_61
theorem w_X8_executeProgram_5 {X : gX} {p1 : Nat} {p2 : Int32} {x3 : Int32} {x4 : Int32} {σ : sg} {r0 : (Int32 × sg)} {r1 : ((Int32 × Int32 × sg) ⊕ (Int32 × sg))} (C : gC X cX8_executeProgram 5 RX8 (some .int) rm_X8_executeProgram) (hM1 : isM p1) (hQ : gQ X (qI (XG X) r0.1 r0.2)) (A1 : ∀ b, r1 = .inl b → G X 5 b.2.2 5 [(0, .ref (Xd X 0)), (1, .ref (Xd X p1)), (2, .int p2), (3, .int b.1), (4, .int b.2.1)] []) (B1 : ∀ b, r1 = .inr b → b = r0) (hf : B_X8_executeProgram_5 p1 p2 x3 x4 σ = some r1) : G X 5 σ 5 [(0, .ref (Xd X 0)), (1, .ref (Xd X p1)), (2, .int p2), (3, .int x3), (4, .int x4)] [] := by
  unfold B_X8_executeProgram_5 at hf
  refine g_iload C 4 dX8_executeProgram_5 rfl ?_
  refine g_iload_n C 2 dX8_executeProgram_7 rfl ?_
  refine g_icmp_ge C 43 hf dX8_executeProgram_8 (by decide) (fun hf => ?_) (fun hf => ?_)
  · refine g_sub [0, 3, 4] rfl ?_
    obtain ⟨t, h1, hf⟩ := g_bind hf
    exact w_X8_executeProgram_43 C hM1 hQ  (h1.trans (congrArg some ((B1 _ (Option.some.inj hf).symm).symm).symm))
  · refine g_aload_n C 0 dX8_executeProgram_11 rfl ?_
    refine g_getr C 8 0 (1) (by decide) sh_0 rfl vc_8 (by decide) inXX8 wfl_259 dX8_executeProgram_12 ?_
    refine g_iload_n C 3 dX8_executeProgram_15 rfl ?_
    obtain ⟨v16, h1, hf⟩ := g_bind hf
    refine g_callVi C 1 [.int x3] (c_X6_has (Xl X) (gC_I C)  h1) ⟨wml_359, wim_340, wse_341, win_2, wcd_342⟩ (by decide) sh_1 vc_6 rfl hd_X6_has ⟨rfl, rfl⟩ ⟨Nat.le_of_ble_eq_true rfl, Nat.le_of_ble_eq_true rfl⟩ rfl rfl (Nat.le_of_ble_eq_true rfl) dX8_executeProgram_16 ?_
    clear h1
    refine g_if_eq C 43 hf dX8_executeProgram_19 (by decide) (fun hf => ?_) (fun hf => ?_)
    · refine g_sub [0, 3, 4] rfl ?_
      obtain ⟨t, h1, hf⟩ := g_bind hf
      exact w_X8_executeProgram_43 C hM1 hQ  (h1.trans (congrArg some ((B1 _ (Option.some.inj hf).symm).symm).symm))
    · refine g_aload_n C 1 dX8_executeProgram_22 rfl ?_
      refine g_aload_n C 0 dX8_executeProgram_23 rfl ?_
      refine g_getr C 8 0 (1) (by decide) sh_0 rfl vc_8 (by decide) inXX8 wfl_259 dX8_executeProgram_24 ?_
      refine g_getrN C 6 0 (2) (by decide) sh_1 rfl vc_6 (by decide) inXX6 wfn_33 dX8_executeProgram_27 ?_
      refine g_iload_n C 3 dX8_executeProgram_30 rfl ?_
      obtain ⟨q31, h1, hf⟩ := g_bind hf
      refine g_aald C h1 dX8_executeProgram_31 ?_
      clear h1
      refine g_iload_n C 3 dX8_executeProgram_32 rfl ?_
      obtain ⟨q33, h1, hf⟩ := g_bind hf
      refine g_callVi C 2 [.ref (Xd X q31), .int x3] (c_X4_step (Xl X) (gC_I C) hM1 h1) ⟨wml_590, wim_591, wse_592, win_8, wcd_593⟩ (isM_lt hM1) (g_shM hM1) vc_4 rfl hd_X4_step ⟨rfl, rfl⟩ ⟨Nat.le_of_ble_eq_true rfl, Nat.le_of_ble_eq_true rfl⟩ rfl rfl (Nat.le_of_ble_eq_true rfl) dX8_executeProgram_33 ?_
      clear h1
      refine g_istore_n C (lv' := [(3, .int q33.1), (0, .ref (Xd X 0)), (1, .ref (Xd X p1)), (2, .int p2), (4, .int x4)]) dX8_executeProgram_36 (by decide) rfl ?_
      refine g_iinc C (v := x4 + (1 : Int32)) (lv' := [(4, .int (x4 + (1 : Int32))), (3, .int q33.1), (0, .ref (Xd X 0)), (1, .ref (Xd X p1)), (2, .int p2)]) 4 dX8_executeProgram_37 rfl rfl (by decide) rfl ?_
      refine g_goto C 5 dX8_executeProgram_40 (by decide) ?_
      refine g_sub [2, 3, 4, 1, 0] rfl ?_
      exact A1 (q33.1, x4 + (1 : Int32), q33.2) (Option.some.inj hf).symm
theorem wl_X8_executeProgram_5 {X : gX} {p1 : Nat} {p2 : Int32} {r0 : (Int32 × sg)} (C : gC X cX8_executeProgram 5 RX8 (some .int) rm_X8_executeProgram) (hM1 : isM p1) (hQ : gQ X (qI (XG X) r0.1 r0.2))  {n : Nat} {a : (Int32 × Int32 × sg)} (hf : L_X8_executeProgram_5 p1 p2 n a = some r0) : G X 5 a.2.2 5 [(0, .ref (Xd X 0)), (1, .ref (Xd X p1)), (2, .int p2), (3, .int a.1), (4, .int a.2.1)] [] := by
  unfold L_X8_executeProgram_5 at hf
  have key := g_loop_ind (res := r0) (f := fun a => B_X8_executeProgram_5 p1 p2 a.1 a.2.1 a.2.2) (P := fun a => G X 5 a.2.2 5 [(0, .ref (Xd X 0)), (1, .ref (Xd X p1)), (2, .int p2), (3, .int a.1), (4, .int a.2.1)] []) (fun a r1 h1 k1 k2 => w_X8_executeProgram_5 (x3 := a.1) (x4 := a.2.1) (σ := a.2.2) C hM1 hQ  k1 k2 h1)
  exact key n a hf
theorem w_X8_executeProgram_e {X : gX} {σ : sg} {p1 : Nat} {p2 : Int32} {r0 : (Int32 × sg)} (C : gC X cX8_executeProgram 5 RX8 (some .int) rm_X8_executeProgram) (hM1 : isM p1) (hQ : gQ X (qI (XG X) r0.1 r0.2)) (hf : f_X8_executeProgram σ p1 p2 = some r0) : G X 5 σ 0 [(0, .ref (Xd X 0)), (1, .ref (Xd X p1)), (2, .int p2)] [] := by
  unfold f_X8_executeProgram at hf
  refine g_iconst C (v := 0) dX8_executeProgram_0 rfl ?_
  refine g_istore_n C (lv' := [(3, .int (0 : Int32)), (0, .ref (Xd X 0)), (1, .ref (Xd X p1)), (2, .int p2)]) dX8_executeProgram_1 (by decide) rfl ?_
  refine g_iconst C (v := 0) dX8_executeProgram_2 rfl ?_
  refine g_istore C (lv' := [(4, .int (0 : Int32)), (3, .int (0 : Int32)), (0, .ref (Xd X 0)), (1, .ref (Xd X p1)), (2, .int p2)]) dX8_executeProgram_3 (by decide) rfl ?_
  refine g_sub [2, 3, 4, 1, 0] rfl ?_
  exact wl_X8_executeProgram_5 (a := ((0 : Int32), (0 : Int32), σ)) C hM1 hQ  hf
theorem c_X8_executeProgram (l : Launch) {Gw : gW} (hI : g_I Gw) {σ : sg} {p1 : Nat} {p2 : Int32} {r : (Int32 × sg)} (hM1 : isM p1) (hf : f_X8_executeProgram σ p1 p2 = some r) : gM l Gw yX8_executeProgram cX8_executeProgram 5 (some .int) rm_X8_executeProgram [.ref (Gw.2.2 0), .ref (Gw.2.2 p1), .int p2] σ (qI (Gw) r.1 r.2) := by
  refine g_met hI (by decide) (Nat.le_of_ble_eq_true rfl) (fun X h1 h2 C hQ => ?_)
  subst h1; subst h2
  exact w_X8_executeProgram_e C hM1 hQ hf
theorem dX8_run_0 : decode cX8_run 0 = .ok (.iload_n 1, 1) := by decide +kernel
theorem dX8_run_1 : decode cX8_run 1 = .ok (.ifCond .lt 10, 3) := by decide +kernel
theorem dX8_run_4 : decode cX8_run 4 = .ok (.iload_n 1, 1) := by decide +kernel
theorem dX8_run_5 : decode cX8_run 5 = .ok (.sipush 300, 3) := by decide +kernel
theorem dX8_run_8 : decode cX8_run 8 = .ok (.if_icmp .le 6, 3) := by decide +kernel
theorem dX8_run_11 : decode cX8_run 11 = .ok (.bipush (-2), 2) := by decide +kernel
theorem dX8_run_13 : decode cX8_run 13 = .ok (.ireturn, 1) := by decide +kernel
theorem dX8_run_14 : decode cX8_run 14 = .ok (.aload_n 0, 1) := by decide +kernel
theorem dX8_run_15 : decode cX8_run 15 = .ok (.getfield 26, 3) := by decide +kernel
theorem dX8_run_18 : decode cX8_run 18 = .ok (.getfield 116, 3) := by decide +kernel
theorem dX8_run_21 : decode cX8_run 21 = .ok (.ifCond .eq 15, 3) := by decide +kernel
theorem dX8_run_24 : decode cX8_run 24 = .ok (.aload_n 0, 1) := by decide +kernel
theorem dX8_run_25 : decode cX8_run 25 = .ok (.aload_n 0, 1) := by decide +kernel
theorem dX8_run_26 : decode cX8_run 26 = .ok (.getfield 58, 3) := by decide +kernel
theorem dX8_run_29 : decode cX8_run 29 = .ok (.iload_n 1, 1) := by decide +kernel
theorem dX8_run_30 : decode cX8_run 30 = .ok (.invokevirtual 205, 3) := by decide +kernel
theorem dX8_run_33 : decode cX8_run 33 = .ok (.goto 5, 3) := by decide +kernel
theorem dX8_run_36 : decode cX8_run 36 = .ok (.bipush (-6), 2) := by decide +kernel
theorem dX8_run_38 : decode cX8_run 38 = .ok (.ireturn, 1) := by decide +kernel
abbrev rm_X8_run : Room := { frames := 4, cells := 0, slots := 0, locals := 90 }
theorem w_X8_run_e {X : gX} {σ : sg} {p1 : Int32} {r0 : (Int32 × sg)} (C : gC X cX8_run 2 RX8 (some .int) rm_X8_run)  (hQ : gQ X (qI (XG X) r0.1 r0.2)) (hf : f_X8_run σ p1 = some r0) : G X 2 σ 0 [(0, .ref (Xd X 0)), (1, .int p1)] [] := by
  unfold f_X8_run at hf
  refine g_iload_n C 1 dX8_run_0 rfl ?_
  refine g_if_lt C 11 hf dX8_run_1 (by decide) (fun hf => ?_) (fun hf => ?_)
  · refine g_bipush C (v := (-2)) dX8_run_11 rfl ?_
    have e0 : r0 = ((-2 : Int32), σ) := (Option.some.inj hf).symm
    exact g_iret C rfl hQ (by rw [e0]) rfl dX8_run_13
  · refine g_iload_n C 1 dX8_run_4 rfl ?_
    refine g_sipush C (v := 300) dX8_run_5 rfl ?_
    refine g_icmp_le C 14 hf dX8_run_8 (by decide) (fun hf => ?_) (fun hf => ?_)
    · refine g_aload_n C 0 dX8_run_14 rfl ?_
      refine g_getr C 8 2 (57) (by decide) sh_0 rfl vc_8 (by decide) inXX8 wfl_261 dX8_run_15 ?_
      refine g_getiN C 1 4 (by decide) sh_57 rfl vc_1 (by decide) inXX1 wfn_85 dX8_run_18 ?_
      refine g_if_eq C 36 hf dX8_run_21 (by decide) (fun hf => ?_) (fun hf => ?_)
      · refine g_bipush C (v := (-6)) dX8_run_36 rfl ?_
        have e0 : r0 = ((-6 : Int32), σ) := (Option.some.inj hf).symm
        exact g_iret C rfl hQ (by rw [e0]) rfl dX8_run_38
      · refine g_aload_n C 0 dX8_run_24 rfl ?_
        refine g_aload_n C 0 dX8_run_25 rfl ?_
        refine g_getr C 8 6 (145) (by decide) sh_0 rfl vc_8 (by decide) inXX8 wfl_265 dX8_run_26 ?_
        refine g_iload_n C 1 dX8_run_29 rfl ?_
        obtain ⟨q30, h1, hf⟩ := g_bind hf
        refine g_callVi C 2 [.ref (Xd X 145), .int p1] (c_X8_executeProgram (Xl X) (gC_I C) (by unfold isM; decide) h1) ⟨wml_586, wim_588, wsp_8, win_1, wcd_589⟩ (by decide) sh_0 vc_8 rfl hd_X8_executeProgram ⟨rfl, rfl⟩ ⟨Nat.le_of_ble_eq_true rfl, Nat.le_of_ble_eq_true rfl⟩ rfl rfl (Nat.le_of_ble_eq_true rfl) dX8_run_30 ?_
        clear h1
        refine g_goto C 38 dX8_run_33 (by decide) ?_
        have e0 : r0 = (q30.1, q30.2) := (Option.some.inj hf).symm
        exact g_iret C rfl hQ (by rw [e0]) rfl dX8_run_38
    · refine g_bipush C (v := (-2)) dX8_run_11 rfl ?_
      have e0 : r0 = ((-2 : Int32), σ) := (Option.some.inj hf).symm
      exact g_iret C rfl hQ (by rw [e0]) rfl dX8_run_13
theorem c_X8_run (l : Launch) {Gw : gW} (hI : g_I Gw) {σ : sg} {p1 : Int32} {r : (Int32 × sg)}  (hf : f_X8_run σ p1 = some r) : gM l Gw yX8_run cX8_run 2 (some .int) rm_X8_run [.ref (Gw.2.2 0), .int p1] σ (qI (Gw) r.1 r.2) := by
  refine g_met hI (by decide) (Nat.le_of_ble_eq_true rfl) (fun X h1 h2 C hQ => ?_)
  subst h1; subst h2
  exact w_X8_run_e C  hQ hf
theorem dX8_executePacking_0 : decode cX8_executePacking 0 = .ok (.iconst 0, 1) := by decide +kernel
theorem dX8_executePacking_1 : decode cX8_executePacking 1 = .ok (.istore_n 3, 1) := by decide +kernel
theorem dX8_executePacking_2 : decode cX8_executePacking 2 = .ok (.iconst 0, 1) := by decide +kernel
theorem dX8_executePacking_3 : decode cX8_executePacking 3 = .ok (.istore 4, 2) := by decide +kernel
theorem dX8_executePacking_5 : decode cX8_executePacking 5 = .ok (.iconst 0, 1) := by decide +kernel
theorem dX8_executePacking_6 : decode cX8_executePacking 6 = .ok (.istore 5, 2) := by decide +kernel
theorem dX8_executePacking_8 : decode cX8_executePacking 8 = .ok (.iload 5, 2) := by decide +kernel
theorem dX8_executePacking_10 : decode cX8_executePacking 10 = .ok (.iload_n 2, 1) := by decide +kernel
theorem dX8_executePacking_11 : decode cX8_executePacking 11 = .ok (.if_icmp .ge 44, 3) := by decide +kernel
theorem dX8_executePacking_14 : decode cX8_executePacking 14 = .ok (.aload_n 0, 1) := by decide +kernel
theorem dX8_executePacking_15 : decode cX8_executePacking 15 = .ok (.getfield 26, 3) := by decide +kernel
theorem dX8_executePacking_18 : decode cX8_executePacking 18 = .ok (.iload_n 3, 1) := by decide +kernel
theorem dX8_executePacking_19 : decode cX8_executePacking 19 = .ok (.invokevirtual 124, 3) := by decide +kernel
theorem dX8_executePacking_22 : decode cX8_executePacking 22 = .ok (.ifCond .eq 33, 3) := by decide +kernel
theorem dX8_executePacking_25 : decode cX8_executePacking 25 = .ok (.iload 4, 2) := by decide +kernel
theorem dX8_executePacking_27 : decode cX8_executePacking 27 = .ok (.aload_n 0, 1) := by decide +kernel
theorem dX8_executePacking_28 : decode cX8_executePacking 28 = .ok (.getfield 51, 3) := by decide +kernel
theorem dX8_executePacking_31 : decode cX8_executePacking 31 = .ok (.getfield 179, 3) := by decide +kernel
theorem dX8_executePacking_34 : decode cX8_executePacking 34 = .ok (.iload_n 3, 1) := by decide +kernel
theorem dX8_executePacking_35 : decode cX8_executePacking 35 = .ok (.iaload, 1) := by decide +kernel
theorem dX8_executePacking_36 : decode cX8_executePacking 36 = .ok (.iadd, 1) := by decide +kernel
theorem dX8_executePacking_37 : decode cX8_executePacking 37 = .ok (.istore 4, 2) := by decide +kernel
theorem dX8_executePacking_39 : decode cX8_executePacking 39 = .ok (.aload_n 0, 1) := by decide +kernel
theorem dX8_executePacking_40 : decode cX8_executePacking 40 = .ok (.getfield 73, 3) := by decide +kernel
theorem dX8_executePacking_43 : decode cX8_executePacking 43 = .ok (.aload_n 1, 1) := by decide +kernel
theorem dX8_executePacking_44 : decode cX8_executePacking 44 = .ok (.iload_n 3, 1) := by decide +kernel
theorem dX8_executePacking_45 : decode cX8_executePacking 45 = .ok (.invokevirtual 224, 3) := by decide +kernel
theorem dX8_executePacking_48 : decode cX8_executePacking 48 = .ok (.istore_n 3, 1) := by decide +kernel
theorem dX8_executePacking_49 : decode cX8_executePacking 49 = .ok (.iinc 5 1, 3) := by decide +kernel
theorem dX8_executePacking_52 : decode cX8_executePacking 52 = .ok (.goto (-44), 3) := by decide +kernel
theorem dX8_executePacking_55 : decode cX8_executePacking 55 = .ok (.aload_n 0, 1) := by decide +kernel
theorem dX8_executePacking_56 : decode cX8_executePacking 56 = .ok (.getfield 26, 3) := by decide +kernel
theorem dX8_executePacking_59 : decode cX8_executePacking 59 = .ok (.iload_n 3, 1) := by decide +kernel
theorem dX8_executePacking_60 : decode cX8_executePacking 60 = .ok (.invokevirtual 124, 3) := by decide +kernel
theorem dX8_executePacking_63 : decode cX8_executePacking 63 = .ok (.ifCond .eq 8, 3) := by decide +kernel
theorem dX8_executePacking_66 : decode cX8_executePacking 66 = .ok (.bipush (-7), 2) := by decide +kernel
theorem dX8_executePacking_68 : decode cX8_executePacking 68 = .ok (.goto 5, 3) := by decide +kernel
theorem dX8_executePacking_71 : decode cX8_executePacking 71 = .ok (.iload 4, 2) := by decide +kernel
theorem dX8_executePacking_73 : decode cX8_executePacking 73 = .ok (.ireturn, 1) := by decide +kernel
abbrev rm_X8_executePacking : Room := { frames := 4, cells := 0, slots := 0, locals := 94 }
theorem w_X8_executePacking_55 {X : gX} {x3 : Int32} {x4 : Int32} {σ : sg} {p1 : Nat} {r0 : (Int32 × sg)} (C : gC X cX8_executePacking 6 RX8 (some .int) rm_X8_executePacking) (hM1 : isM p1) (hQ : gQ X (qI (XG X) r0.1 r0.2))  (hf : J_X8_executePacking_55 x3 x4 σ = some r0) : G X 6 σ 55 [(0, .ref (Xd X 0)), (3, .int x3), (4, .int x4)] [] := by
  unfold J_X8_executePacking_55 at hf
  refine g_aload_n C 0 dX8_executePacking_55 rfl ?_
  refine g_getr C 8 2 (57) (by decide) sh_0 rfl vc_8 (by decide) inXX8 wfl_261 dX8_executePacking_56 ?_
  refine g_iload_n C 1 dX8_executePacking_59 rfl ?_
  obtain ⟨v60, h1, hf⟩ := g_bind hf
  refine g_callVi C 1 [.int x3] (c_X1_has (Xl X) (gC_I C)  h1) ⟨wml_393, wim_394, wse_395, win_4, wcd_396⟩ (by decide) sh_57 vc_1 rfl hd_X1_has ⟨rfl, rfl⟩ ⟨Nat.le_of_ble_eq_true rfl, Nat.le_of_ble_eq_true rfl⟩ rfl rfl (Nat.le_of_ble_eq_true rfl) dX8_executePacking_60 ?_
  clear h1
  refine g_if_eq C 71 hf dX8_executePacking_63 (by decide) (fun hf => ?_) (fun hf => ?_)
  · refine g_iload C 2 dX8_executePacking_71 rfl ?_
    have e0 : r0 = (x4, σ) := (Option.some.inj hf).symm
    exact g_iret C rfl hQ (by rw [e0]) rfl dX8_executePacking_73
  · refine g_bipush C (v := (-7)) dX8_executePacking_66 rfl ?_
    refine g_goto C 73 dX8_executePacking_68 (by decide) ?_
    have e0 : r0 = ((-7 : Int32), σ) := (Option.some.inj hf).symm
    exact g_iret C rfl hQ (by rw [e0]) rfl dX8_executePacking_73
theorem w_X8_executePacking_8 {X : gX} {p1 : Nat} {p2 : Int32} {x3 : Int32} {x4 : Int32} {x5 : Int32} {σ : sg} {r0 : (Int32 × sg)} {r1 : ((Int32 × Int32 × Int32 × sg) ⊕ (Int32 × sg))} (C : gC X cX8_executePacking 6 RX8 (some .int) rm_X8_executePacking) (hM1 : isM p1) (hQ : gQ X (qI (XG X) r0.1 r0.2)) (A1 : ∀ b, r1 = .inl b → G X 6 b.2.2.2 8 [(0, .ref (Xd X 0)), (1, .ref (Xd X p1)), (2, .int p2), (3, .int b.1), (4, .int b.2.1), (5, .int b.2.2.1)] []) (B1 : ∀ b, r1 = .inr b → b = r0) (hf : B_X8_executePacking_8 p1 p2 x3 x4 x5 σ = some r1) : G X 6 σ 8 [(0, .ref (Xd X 0)), (1, .ref (Xd X p1)), (2, .int p2), (3, .int x3), (4, .int x4), (5, .int x5)] [] := by
  unfold B_X8_executePacking_8 at hf
  refine g_iload C 5 dX8_executePacking_8 rfl ?_
  refine g_iload_n C 2 dX8_executePacking_10 rfl ?_
  refine g_icmp_ge C 55 hf dX8_executePacking_11 (by decide) (fun hf => ?_) (fun hf => ?_)
  · refine g_sub [0, 3, 4] rfl ?_
    obtain ⟨t, h1, hf⟩ := g_bind hf
    exact w_X8_executePacking_55 C hM1 hQ  (h1.trans (congrArg some ((B1 _ (Option.some.inj hf).symm).symm).symm))
  · refine g_aload_n C 0 dX8_executePacking_14 rfl ?_
    refine g_getr C 8 2 (57) (by decide) sh_0 rfl vc_8 (by decide) inXX8 wfl_261 dX8_executePacking_15 ?_
    refine g_iload_n C 3 dX8_executePacking_18 rfl ?_
    obtain ⟨v19, h1, hf⟩ := g_bind hf
    refine g_callVi C 1 [.int x3] (c_X1_has (Xl X) (gC_I C)  h1) ⟨wml_393, wim_394, wse_395, win_4, wcd_396⟩ (by decide) sh_57 vc_1 rfl hd_X1_has ⟨rfl, rfl⟩ ⟨Nat.le_of_ble_eq_true rfl, Nat.le_of_ble_eq_true rfl⟩ rfl rfl (Nat.le_of_ble_eq_true rfl) dX8_executePacking_19 ?_
    clear h1
    refine g_if_eq C 55 hf dX8_executePacking_22 (by decide) (fun hf => ?_) (fun hf => ?_)
    · refine g_sub [0, 3, 4] rfl ?_
      obtain ⟨t, h1, hf⟩ := g_bind hf
      exact w_X8_executePacking_55 C hM1 hQ  (h1.trans (congrArg some ((B1 _ (Option.some.inj hf).symm).symm).symm))
    · refine g_iload C 4 dX8_executePacking_25 rfl ?_
      refine g_aload_n C 0 dX8_executePacking_27 rfl ?_
      refine g_getr C 8 5 (75) (by decide) sh_0 rfl vc_8 (by decide) inXX8 wfl_264 dX8_executePacking_28 ?_
      refine g_getrN C 5 7 (142) (by decide) sh_75 rfl vc_5 (by decide) inXX5 wfn_184 dX8_executePacking_31 ?_
      refine g_iload_n C 3 dX8_executePacking_34 rfl ?_
      obtain ⟨v35, h1, hf⟩ := g_bind hf
      refine g_iald C h1 dX8_executePacking_35 ?_
      clear h1
      refine g_iadd C dX8_executePacking_36 ?_
      refine g_istore C (lv' := [(4, .int (x4 + v35)), (0, .ref (Xd X 0)), (1, .ref (Xd X p1)), (2, .int p2), (3, .int x3), (5, .int x5)]) dX8_executePacking_37 (by decide) rfl ?_
      refine g_aload_n C 1 dX8_executePacking_39 rfl ?_
      refine g_getr C 8 9 (154) (by decide) sh_0 rfl vc_8 (by decide) inXX8 wfl_268 dX8_executePacking_40 ?_
      refine g_aload_n C 2 dX8_executePacking_43 rfl ?_
      refine g_iload_n C 4 dX8_executePacking_44 rfl ?_
      obtain ⟨q45, h1, hf⟩ := g_bind hf
      refine g_callVi C 2 [.ref (Xd X p1), .int x3] (c_X0_execute (Xl X) (gC_I C) hM1 h1) ⟨wml_621, wim_622, wse_623, win_9, wcd_624⟩ (by decide) sh_154 vc_0 rfl hd_X0_execute ⟨rfl, rfl⟩ ⟨Nat.le_of_ble_eq_true rfl, Nat.le_of_ble_eq_true rfl⟩ rfl rfl (Nat.le_of_ble_eq_true rfl) dX8_executePacking_45 ?_
      clear h1
      refine g_istore_n C (lv' := [(3, .int q45.1), (4, .int (x4 + v35)), (0, .ref (Xd X 0)), (1, .ref (Xd X p1)), (2, .int p2), (5, .int x5)]) dX8_executePacking_48 (by decide) rfl ?_
      refine g_iinc C (v := x5 + (1 : Int32)) (lv' := [(5, .int (x5 + (1 : Int32))), (3, .int q45.1), (4, .int (x4 + v35)), (0, .ref (Xd X 0)), (1, .ref (Xd X p1)), (2, .int p2)]) 5 dX8_executePacking_49 rfl rfl (by decide) rfl ?_
      refine g_goto C 8 dX8_executePacking_52 (by decide) ?_
      refine g_sub [3, 4, 5, 1, 2, 0] rfl ?_
      exact A1 (q45.1, x4 + v35, x5 + (1 : Int32), q45.2) (Option.some.inj hf).symm
theorem wl_X8_executePacking_8 {X : gX} {p1 : Nat} {p2 : Int32} {r0 : (Int32 × sg)} (C : gC X cX8_executePacking 6 RX8 (some .int) rm_X8_executePacking) (hM1 : isM p1) (hQ : gQ X (qI (XG X) r0.1 r0.2))  {n : Nat} {a : (Int32 × Int32 × Int32 × sg)} (hf : L_X8_executePacking_8 p1 p2 n a = some r0) : G X 6 a.2.2.2 8 [(0, .ref (Xd X 0)), (1, .ref (Xd X p1)), (2, .int p2), (3, .int a.1), (4, .int a.2.1), (5, .int a.2.2.1)] [] := by
  unfold L_X8_executePacking_8 at hf
  have key := g_loop_ind (res := r0) (f := fun a => B_X8_executePacking_8 p1 p2 a.1 a.2.1 a.2.2.1 a.2.2.2) (P := fun a => G X 6 a.2.2.2 8 [(0, .ref (Xd X 0)), (1, .ref (Xd X p1)), (2, .int p2), (3, .int a.1), (4, .int a.2.1), (5, .int a.2.2.1)] []) (fun a r1 h1 k1 k2 => w_X8_executePacking_8 (x3 := a.1) (x4 := a.2.1) (x5 := a.2.2.1) (σ := a.2.2.2) C hM1 hQ  k1 k2 h1)
  exact key n a hf
theorem w_X8_executePacking_e {X : gX} {σ : sg} {p1 : Nat} {p2 : Int32} {r0 : (Int32 × sg)} (C : gC X cX8_executePacking 6 RX8 (some .int) rm_X8_executePacking) (hM1 : isM p1) (hQ : gQ X (qI (XG X) r0.1 r0.2)) (hf : f_X8_executePacking σ p1 p2 = some r0) : G X 6 σ 0 [(0, .ref (Xd X 0)), (1, .ref (Xd X p1)), (2, .int p2)] [] := by
  unfold f_X8_executePacking at hf
  refine g_iconst C (v := 0) dX8_executePacking_0 rfl ?_
  refine g_istore_n C (lv' := [(3, .int (0 : Int32)), (0, .ref (Xd X 0)), (1, .ref (Xd X p1)), (2, .int p2)]) dX8_executePacking_1 (by decide) rfl ?_
  refine g_iconst C (v := 0) dX8_executePacking_2 rfl ?_
  refine g_istore C (lv' := [(4, .int (0 : Int32)), (3, .int (0 : Int32)), (0, .ref (Xd X 0)), (1, .ref (Xd X p1)), (2, .int p2)]) dX8_executePacking_3 (by decide) rfl ?_
  refine g_iconst C (v := 0) dX8_executePacking_5 rfl ?_
  refine g_istore C (lv' := [(5, .int (0 : Int32)), (4, .int (0 : Int32)), (3, .int (0 : Int32)), (0, .ref (Xd X 0)), (1, .ref (Xd X p1)), (2, .int p2)]) dX8_executePacking_6 (by decide) rfl ?_
  refine g_sub [3, 4, 5, 2, 1, 0] rfl ?_
  exact wl_X8_executePacking_8 (a := ((0 : Int32), (0 : Int32), (0 : Int32), σ)) C hM1 hQ  hf
theorem c_X8_executePacking (l : Launch) {Gw : gW} (hI : g_I Gw) {σ : sg} {p1 : Nat} {p2 : Int32} {r : (Int32 × sg)} (hM1 : isM p1) (hf : f_X8_executePacking σ p1 p2 = some r) : gM l Gw yX8_executePacking cX8_executePacking 6 (some .int) rm_X8_executePacking [.ref (Gw.2.2 0), .ref (Gw.2.2 p1), .int p2] σ (qI (Gw) r.1 r.2) := by
  refine g_met hI (by decide) (Nat.le_of_ble_eq_true rfl) (fun X h1 h2 C hQ => ?_)
  subst h1; subst h2
  exact w_X8_executePacking_e C hM1 hQ hf
theorem dX8_runBundles_0 : decode cX8_runBundles 0 = .ok (.iload_n 1, 1) := by decide +kernel
theorem dX8_runBundles_1 : decode cX8_runBundles 1 = .ok (.ifCond .lt 9, 3) := by decide +kernel
theorem dX8_runBundles_4 : decode cX8_runBundles 4 = .ok (.iload_n 1, 1) := by decide +kernel
theorem dX8_runBundles_5 : decode cX8_runBundles 5 = .ok (.bipush 100, 2) := by decide +kernel
theorem dX8_runBundles_7 : decode cX8_runBundles 7 = .ok (.if_icmp .le 6, 3) := by decide +kernel
theorem dX8_runBundles_10 : decode cX8_runBundles 10 = .ok (.bipush (-2), 2) := by decide +kernel
theorem dX8_runBundles_12 : decode cX8_runBundles 12 = .ok (.ireturn, 1) := by decide +kernel
theorem dX8_runBundles_13 : decode cX8_runBundles 13 = .ok (.aload_n 0, 1) := by decide +kernel
theorem dX8_runBundles_14 : decode cX8_runBundles 14 = .ok (.getfield 51, 3) := by decide +kernel
theorem dX8_runBundles_17 : decode cX8_runBundles 17 = .ok (.getfield 81, 3) := by decide +kernel
theorem dX8_runBundles_20 : decode cX8_runBundles 20 = .ok (.ifCond .eq 15, 3) := by decide +kernel
theorem dX8_runBundles_23 : decode cX8_runBundles 23 = .ok (.aload_n 0, 1) := by decide +kernel
theorem dX8_runBundles_24 : decode cX8_runBundles 24 = .ok (.aload_n 0, 1) := by decide +kernel
theorem dX8_runBundles_25 : decode cX8_runBundles 25 = .ok (.getfield 58, 3) := by decide +kernel
theorem dX8_runBundles_28 : decode cX8_runBundles 28 = .ok (.iload_n 1, 1) := by decide +kernel
theorem dX8_runBundles_29 : decode cX8_runBundles 29 = .ok (.invokevirtual 209, 3) := by decide +kernel
theorem dX8_runBundles_32 : decode cX8_runBundles 32 = .ok (.goto 5, 3) := by decide +kernel
theorem dX8_runBundles_35 : decode cX8_runBundles 35 = .ok (.bipush (-5), 2) := by decide +kernel
theorem dX8_runBundles_37 : decode cX8_runBundles 37 = .ok (.ireturn, 1) := by decide +kernel
abbrev rm_X8_runBundles : Room := { frames := 5, cells := 0, slots := 0, locals := 119 }
theorem w_X8_runBundles_e {X : gX} {σ : sg} {p1 : Int32} {r0 : (Int32 × sg)} (C : gC X cX8_runBundles 2 RX8 (some .int) rm_X8_runBundles)  (hQ : gQ X (qI (XG X) r0.1 r0.2)) (hf : f_X8_runBundles σ p1 = some r0) : G X 2 σ 0 [(0, .ref (Xd X 0)), (1, .int p1)] [] := by
  unfold f_X8_runBundles at hf
  refine g_iload_n C 1 dX8_runBundles_0 rfl ?_
  refine g_if_lt C 10 hf dX8_runBundles_1 (by decide) (fun hf => ?_) (fun hf => ?_)
  · refine g_bipush C (v := (-2)) dX8_runBundles_10 rfl ?_
    have e0 : r0 = ((-2 : Int32), σ) := (Option.some.inj hf).symm
    exact g_iret C rfl hQ (by rw [e0]) rfl dX8_runBundles_12
  · refine g_iload_n C 1 dX8_runBundles_4 rfl ?_
    refine g_bipush C (v := 100) dX8_runBundles_5 rfl ?_
    refine g_icmp_le C 13 hf dX8_runBundles_7 (by decide) (fun hf => ?_) (fun hf => ?_)
    · refine g_aload_n C 0 dX8_runBundles_13 rfl ?_
      refine g_getr C 8 5 (75) (by decide) sh_0 rfl vc_8 (by decide) inXX8 wfl_264 dX8_runBundles_14 ?_
      refine g_getiN C 5 12 (by decide) sh_75 rfl vc_5 (by decide) inXX5 wfn_194 dX8_runBundles_17 ?_
      refine g_if_eq C 35 hf dX8_runBundles_20 (by decide) (fun hf => ?_) (fun hf => ?_)
      · refine g_bipush C (v := (-5)) dX8_runBundles_35 rfl ?_
        have e0 : r0 = ((-5 : Int32), σ) := (Option.some.inj hf).symm
        exact g_iret C rfl hQ (by rw [e0]) rfl dX8_runBundles_37
      · refine g_aload_n C 0 dX8_runBundles_23 rfl ?_
        refine g_aload_n C 0 dX8_runBundles_24 rfl ?_
        refine g_getr C 8 6 (145) (by decide) sh_0 rfl vc_8 (by decide) inXX8 wfl_265 dX8_runBundles_25 ?_
        refine g_iload_n C 1 dX8_runBundles_28 rfl ?_
        obtain ⟨q29, h1, hf⟩ := g_bind hf
        refine g_callVi C 2 [.ref (Xd X 145), .int p1] (c_X8_executePacking (Xl X) (gC_I C) (by unfold isM; decide) h1) ⟨wml_617, wim_619, wsp_9, win_1, wcd_620⟩ (by decide) sh_0 vc_8 rfl hd_X8_executePacking ⟨rfl, rfl⟩ ⟨Nat.le_of_ble_eq_true rfl, Nat.le_of_ble_eq_true rfl⟩ rfl rfl (Nat.le_of_ble_eq_true rfl) dX8_runBundles_29 ?_
        clear h1
        refine g_goto C 37 dX8_runBundles_32 (by decide) ?_
        have e0 : r0 = (q29.1, q29.2) := (Option.some.inj hf).symm
        exact g_iret C rfl hQ (by rw [e0]) rfl dX8_runBundles_37
    · refine g_bipush C (v := (-2)) dX8_runBundles_10 rfl ?_
      have e0 : r0 = ((-2 : Int32), σ) := (Option.some.inj hf).symm
      exact g_iret C rfl hQ (by rw [e0]) rfl dX8_runBundles_12
theorem c_X8_runBundles (l : Launch) {Gw : gW} (hI : g_I Gw) {σ : sg} {p1 : Int32} {r : (Int32 × sg)}  (hf : f_X8_runBundles σ p1 = some r) : gM l Gw yX8_runBundles cX8_runBundles 2 (some .int) rm_X8_runBundles [.ref (Gw.2.2 0), .int p1] σ (qI (Gw) r.1 r.2) := by
  refine g_met hI (by decide) (Nat.le_of_ble_eq_true rfl) (fun X h1 h2 C hQ => ?_)
  subst h1; subst h2
  exact w_X8_runBundles_e C  hQ hf
theorem dX8_compare_0 : decode cX8_compare 0 = .ok (.iload_n 1, 1) := by decide +kernel
theorem dX8_compare_1 : decode cX8_compare 1 = .ok (.ifCond .lt 10, 3) := by decide +kernel
theorem dX8_compare_4 : decode cX8_compare 4 = .ok (.iload_n 1, 1) := by decide +kernel
theorem dX8_compare_5 : decode cX8_compare 5 = .ok (.sipush 300, 3) := by decide +kernel
theorem dX8_compare_8 : decode cX8_compare 8 = .ok (.if_icmp .le 6, 3) := by decide +kernel
theorem dX8_compare_11 : decode cX8_compare 11 = .ok (.bipush (-2), 2) := by decide +kernel
theorem dX8_compare_13 : decode cX8_compare 13 = .ok (.ireturn, 1) := by decide +kernel
theorem dX8_compare_14 : decode cX8_compare 14 = .ok (.aload_n 0, 1) := by decide +kernel
theorem dX8_compare_15 : decode cX8_compare 15 = .ok (.getfield 51, 3) := by decide +kernel
theorem dX8_compare_18 : decode cX8_compare 18 = .ok (.getfield 81, 3) := by decide +kernel
theorem dX8_compare_21 : decode cX8_compare 21 = .ok (.ifCond .ne 6, 3) := by decide +kernel
theorem dX8_compare_24 : decode cX8_compare 24 = .ok (.bipush (-5), 2) := by decide +kernel
theorem dX8_compare_26 : decode cX8_compare 26 = .ok (.ireturn, 1) := by decide +kernel
theorem dX8_compare_27 : decode cX8_compare 27 = .ok (.aload_n 0, 1) := by decide +kernel
theorem dX8_compare_28 : decode cX8_compare 28 = .ok (.getfield 62, 3) := by decide +kernel
theorem dX8_compare_31 : decode cX8_compare 31 = .ok (.aload_n 0, 1) := by decide +kernel
theorem dX8_compare_32 : decode cX8_compare 32 = .ok (.getfield 58, 3) := by decide +kernel
theorem dX8_compare_35 : decode cX8_compare 35 = .ok (.invokevirtual 212, 3) := by decide +kernel
theorem dX8_compare_38 : decode cX8_compare 38 = .ok (.aload_n 0, 1) := by decide +kernel
theorem dX8_compare_39 : decode cX8_compare 39 = .ok (.aload_n 0, 1) := by decide +kernel
theorem dX8_compare_40 : decode cX8_compare 40 = .ok (.getfield 62, 3) := by decide +kernel
theorem dX8_compare_43 : decode cX8_compare 43 = .ok (.iload_n 1, 1) := by decide +kernel
theorem dX8_compare_44 : decode cX8_compare 44 = .ok (.invokevirtual 205, 3) := by decide +kernel
theorem dX8_compare_47 : decode cX8_compare 47 = .ok (.bipush (-7), 2) := by decide +kernel
theorem dX8_compare_49 : decode cX8_compare 49 = .ok (.if_icmp .ne 6, 3) := by decide +kernel
theorem dX8_compare_52 : decode cX8_compare 52 = .ok (.bipush (-7), 2) := by decide +kernel
theorem dX8_compare_54 : decode cX8_compare 54 = .ok (.ireturn, 1) := by decide +kernel
theorem dX8_compare_55 : decode cX8_compare 55 = .ok (.aload_n 0, 1) := by decide +kernel
theorem dX8_compare_56 : decode cX8_compare 56 = .ok (.getfield 65, 3) := by decide +kernel
theorem dX8_compare_59 : decode cX8_compare 59 = .ok (.aload_n 0, 1) := by decide +kernel
theorem dX8_compare_60 : decode cX8_compare 60 = .ok (.getfield 58, 3) := by decide +kernel
theorem dX8_compare_63 : decode cX8_compare 63 = .ok (.invokevirtual 212, 3) := by decide +kernel
theorem dX8_compare_66 : decode cX8_compare 66 = .ok (.aload_n 0, 1) := by decide +kernel
theorem dX8_compare_67 : decode cX8_compare 67 = .ok (.aload_n 0, 1) := by decide +kernel
theorem dX8_compare_68 : decode cX8_compare 68 = .ok (.getfield 65, 3) := by decide +kernel
theorem dX8_compare_71 : decode cX8_compare 71 = .ok (.sipush 300, 3) := by decide +kernel
theorem dX8_compare_74 : decode cX8_compare 74 = .ok (.invokevirtual 209, 3) := by decide +kernel
theorem dX8_compare_77 : decode cX8_compare 77 = .ok (.bipush (-7), 2) := by decide +kernel
theorem dX8_compare_79 : decode cX8_compare 79 = .ok (.if_icmp .eq 7, 3) := by decide +kernel
theorem dX8_compare_82 : decode cX8_compare 82 = .ok (.iconst 1, 1) := by decide +kernel
theorem dX8_compare_83 : decode cX8_compare 83 = .ok (.goto 4, 3) := by decide +kernel
theorem dX8_compare_86 : decode cX8_compare 86 = .ok (.iconst 0, 1) := by decide +kernel
theorem dX8_compare_87 : decode cX8_compare 87 = .ok (.istore_n 2, 1) := by decide +kernel
theorem dX8_compare_88 : decode cX8_compare 88 = .ok (.iload_n 2, 1) := by decide +kernel
theorem dX8_compare_89 : decode cX8_compare 89 = .ok (.ifCond .eq 21, 3) := by decide +kernel
theorem dX8_compare_92 : decode cX8_compare 92 = .ok (.aload_n 0, 1) := by decide +kernel
theorem dX8_compare_93 : decode cX8_compare 93 = .ok (.getfield 65, 3) := by decide +kernel
theorem dX8_compare_96 : decode cX8_compare 96 = .ok (.aload_n 0, 1) := by decide +kernel
theorem dX8_compare_97 : decode cX8_compare 97 = .ok (.getfield 62, 3) := by decide +kernel
theorem dX8_compare_100 : decode cX8_compare 100 = .ok (.invokevirtual 216, 3) := by decide +kernel
theorem dX8_compare_103 : decode cX8_compare 103 = .ok (.ifCond .eq 7, 3) := by decide +kernel
theorem dX8_compare_106 : decode cX8_compare 106 = .ok (.iconst 1, 1) := by decide +kernel
theorem dX8_compare_107 : decode cX8_compare 107 = .ok (.goto 4, 3) := by decide +kernel
theorem dX8_compare_110 : decode cX8_compare 110 = .ok (.iconst 0, 1) := by decide +kernel
theorem dX8_compare_111 : decode cX8_compare 111 = .ok (.ireturn, 1) := by decide +kernel
abbrev rm_X8_compare : Room := { frames := 5, cells := 0, slots := 0, locals := 119 }
theorem w_X8_compare_87 {X : gX} {t0 : Int32} {σ : sg} {r0 : (Int32 × sg)} (C : gC X cX8_compare 3 RX8 (some .int) rm_X8_compare)  (hQ : gQ X (qI (XG X) r0.1 r0.2))  (hf : J_X8_compare_87 t0 σ = some r0) : G X 3 σ 87 [(0, .ref (Xd X 0))] [.int t0] := by
  unfold J_X8_compare_87 at hf
  refine g_istore_n C (lv' := [(2, .int t0), (0, .ref (Xd X 0))]) dX8_compare_87 (by decide) rfl ?_
  refine g_iload_n C 0 dX8_compare_88 rfl ?_
  refine g_if_eq C 110 hf dX8_compare_89 (by decide) (fun hf => ?_) (fun hf => ?_)
  · refine g_iconst C (v := 0) dX8_compare_110 rfl ?_
    have e0 : r0 = ((0 : Int32), σ) := (Option.some.inj hf).symm
    exact g_iret C rfl hQ (by rw [e0]) rfl dX8_compare_111
  · refine g_aload_n C 1 dX8_compare_92 rfl ?_
    refine g_getr C 8 8 (151) (by decide) sh_0 rfl vc_8 (by decide) inXX8 wfl_267 dX8_compare_93 ?_
    refine g_aload_n C 1 dX8_compare_96 rfl ?_
    refine g_getr C 8 7 (148) (by decide) sh_0 rfl vc_8 (by decide) inXX8 wfl_266 dX8_compare_97 ?_
    obtain ⟨v100, h1, hf⟩ := g_bind hf
    refine g_callVi C 1 [.ref (Xd X 148)] (c_X4_holdsTheSameAs (Xl X) (gC_I C) (by unfold isM; decide) (by unfold isM; decide) h1) ⟨wml_648, wim_649, wse_650, win_8, wcd_651⟩ (isM_lt (by unfold isM; decide)) (g_shM (by unfold isM; decide)) vc_4 rfl hd_X4_holdsTheSameAs ⟨rfl, rfl⟩ ⟨Nat.le_of_ble_eq_true rfl, Nat.le_of_ble_eq_true rfl⟩ rfl rfl (Nat.le_of_ble_eq_true rfl) dX8_compare_100 ?_
    clear h1
    refine g_if_eq C 110 hf dX8_compare_103 (by decide) (fun hf => ?_) (fun hf => ?_)
    · refine g_iconst C (v := 0) dX8_compare_110 rfl ?_
      have e0 : r0 = ((0 : Int32), σ) := (Option.some.inj hf).symm
      exact g_iret C rfl hQ (by rw [e0]) rfl dX8_compare_111
    · refine g_iconst C (v := 1) dX8_compare_106 rfl ?_
      refine g_goto C 111 dX8_compare_107 (by decide) ?_
      have e0 : r0 = ((1 : Int32), σ) := (Option.some.inj hf).symm
      exact g_iret C rfl hQ (by rw [e0]) rfl dX8_compare_111
theorem w_X8_compare_e {X : gX} {σ : sg} {p1 : Int32} {r0 : (Int32 × sg)} (C : gC X cX8_compare 3 RX8 (some .int) rm_X8_compare)  (hQ : gQ X (qI (XG X) r0.1 r0.2)) (hf : f_X8_compare σ p1 = some r0) : G X 3 σ 0 [(0, .ref (Xd X 0)), (1, .int p1)] [] := by
  unfold f_X8_compare at hf
  refine g_iload_n C 1 dX8_compare_0 rfl ?_
  refine g_if_lt C 11 hf dX8_compare_1 (by decide) (fun hf => ?_) (fun hf => ?_)
  · refine g_bipush C (v := (-2)) dX8_compare_11 rfl ?_
    have e0 : r0 = ((-2 : Int32), σ) := (Option.some.inj hf).symm
    exact g_iret C rfl hQ (by rw [e0]) rfl dX8_compare_13
  · refine g_iload_n C 1 dX8_compare_4 rfl ?_
    refine g_sipush C (v := 300) dX8_compare_5 rfl ?_
    refine g_icmp_le C 14 hf dX8_compare_8 (by decide) (fun hf => ?_) (fun hf => ?_)
    · refine g_aload_n C 0 dX8_compare_14 rfl ?_
      refine g_getr C 8 5 (75) (by decide) sh_0 rfl vc_8 (by decide) inXX8 wfl_264 dX8_compare_15 ?_
      refine g_getiN C 5 12 (by decide) sh_75 rfl vc_5 (by decide) inXX5 wfn_194 dX8_compare_18 ?_
      refine g_if_ne C 27 hf dX8_compare_21 (by decide) (fun hf => ?_) (fun hf => ?_)
      · refine g_bipush C (v := (-5)) dX8_compare_24 rfl ?_
        have e0 : r0 = ((-5 : Int32), σ) := (Option.some.inj hf).symm
        exact g_iret C rfl hQ (by rw [e0]) rfl dX8_compare_26
      · refine g_aload_n C 0 dX8_compare_27 rfl ?_
        refine g_getr C 8 7 (148) (by decide) sh_0 rfl vc_8 (by decide) inXX8 wfl_266 dX8_compare_28 ?_
        refine g_aload_n C 0 dX8_compare_31 rfl ?_
        refine g_getr C 8 6 (145) (by decide) sh_0 rfl vc_8 (by decide) inXX8 wfl_265 dX8_compare_32 ?_
        obtain ⟨s35, h1, hf⟩ := g_bind hf
        refine g_callVv C 1 [.ref (Xd X 145)] (c_X4_copyFrom (Xl X) (gC_I C) (by unfold isM; decide) (by unfold isM; decide) h1) ⟨wml_643, wim_644, wse_645, win_8, wcd_646⟩ (isM_lt (by unfold isM; decide)) (g_shM (by unfold isM; decide)) vc_4 rfl hd_X4_copyFrom ⟨rfl, rfl⟩ ⟨Nat.le_of_ble_eq_true rfl, Nat.le_of_ble_eq_true rfl⟩ rfl rfl (Nat.le_of_ble_eq_true rfl) dX8_compare_35 ?_
        clear h1
        refine g_aload_n C 0 dX8_compare_38 rfl ?_
        refine g_aload_n C 0 dX8_compare_39 rfl ?_
        refine g_getr C 8 7 (148) (by decide) sh_0 rfl vc_8 (by decide) inXX8 wfl_266 dX8_compare_40 ?_
        refine g_iload_n C 1 dX8_compare_43 rfl ?_
        obtain ⟨q44, h1, hf⟩ := g_bind hf
        refine g_callVi C 2 [.ref (Xd X 148), .int p1] (c_X8_executeProgram (Xl X) (gC_I C) (by unfold isM; decide) h1) ⟨wml_586, wim_588, wsp_8, win_1, wcd_589⟩ (by decide) sh_0 vc_8 rfl hd_X8_executeProgram ⟨rfl, rfl⟩ ⟨Nat.le_of_ble_eq_true rfl, Nat.le_of_ble_eq_true rfl⟩ rfl rfl (Nat.le_of_ble_eq_true rfl) dX8_compare_44 ?_
        clear h1
        refine g_bipush C (v := (-7)) dX8_compare_47 rfl ?_
        refine g_icmp_ne C 55 hf dX8_compare_49 (by decide) (fun hf => ?_) (fun hf => ?_)
        · refine g_bipush C (v := (-7)) dX8_compare_52 rfl ?_
          have e0 : r0 = ((-7 : Int32), q44.2) := (Option.some.inj hf).symm
          exact g_iret C rfl hQ (by rw [e0]) rfl dX8_compare_54
        · refine g_aload_n C 0 dX8_compare_55 rfl ?_
          refine g_getr C 8 8 (151) (by decide) sh_0 rfl vc_8 (by decide) inXX8 wfl_267 dX8_compare_56 ?_
          refine g_aload_n C 0 dX8_compare_59 rfl ?_
          refine g_getr C 8 6 (145) (by decide) sh_0 rfl vc_8 (by decide) inXX8 wfl_265 dX8_compare_60 ?_
          obtain ⟨s63, h1, hf⟩ := g_bind hf
          refine g_callVv C 1 [.ref (Xd X 145)] (c_X4_copyFrom (Xl X) (gC_I C) (by unfold isM; decide) (by unfold isM; decide) h1) ⟨wml_643, wim_644, wse_645, win_8, wcd_646⟩ (isM_lt (by unfold isM; decide)) (g_shM (by unfold isM; decide)) vc_4 rfl hd_X4_copyFrom ⟨rfl, rfl⟩ ⟨Nat.le_of_ble_eq_true rfl, Nat.le_of_ble_eq_true rfl⟩ rfl rfl (Nat.le_of_ble_eq_true rfl) dX8_compare_63 ?_
          clear h1
          refine g_aload_n C 0 dX8_compare_66 rfl ?_
          refine g_aload_n C 0 dX8_compare_67 rfl ?_
          refine g_getr C 8 8 (151) (by decide) sh_0 rfl vc_8 (by decide) inXX8 wfl_267 dX8_compare_68 ?_
          refine g_sipush C (v := 300) dX8_compare_71 rfl ?_
          obtain ⟨q74, h1, hf⟩ := g_bind hf
          refine g_callVi C 2 [.ref (Xd X 151), .int (300 : Int32)] (c_X8_executePacking (Xl X) (gC_I C) (by unfold isM; decide) h1) ⟨wml_617, wim_619, wsp_9, win_1, wcd_620⟩ (by decide) sh_0 vc_8 rfl hd_X8_executePacking ⟨rfl, rfl⟩ ⟨Nat.le_of_ble_eq_true rfl, Nat.le_of_ble_eq_true rfl⟩ rfl rfl (Nat.le_of_ble_eq_true rfl) dX8_compare_74 ?_
          clear h1
          refine g_bipush C (v := (-7)) dX8_compare_77 rfl ?_
          refine g_icmp_eq C 86 hf dX8_compare_79 (by decide) (fun hf => ?_) (fun hf => ?_)
          · refine g_iconst C (v := 0) dX8_compare_86 rfl ?_
            refine g_sub [0] rfl ?_
            exact w_X8_compare_87 C  hQ  hf
          · refine g_iconst C (v := 1) dX8_compare_82 rfl ?_
            refine g_goto C 87 dX8_compare_83 (by decide) ?_
            refine g_sub [0] rfl ?_
            exact w_X8_compare_87 C  hQ  hf
    · refine g_bipush C (v := (-2)) dX8_compare_11 rfl ?_
      have e0 : r0 = ((-2 : Int32), σ) := (Option.some.inj hf).symm
      exact g_iret C rfl hQ (by rw [e0]) rfl dX8_compare_13
theorem c_X8_compare (l : Launch) {Gw : gW} (hI : g_I Gw) {σ : sg} {p1 : Int32} {r : (Int32 × sg)}  (hf : f_X8_compare σ p1 = some r) : gM l Gw yX8_compare cX8_compare 3 (some .int) rm_X8_compare [.ref (Gw.2.2 0), .int p1] σ (qI (Gw) r.1 r.2) := by
  refine g_met hI (by decide) (Nat.le_of_ble_eq_true rfl) (fun X h1 h2 C hQ => ?_)
  subst h1; subst h2
  exact w_X8_compare_e C  hQ hf
theorem dX9_isBetween_0 : decode cX9_isBetween 0 = .ok (.iload_n 0, 1) := by decide +kernel
theorem dX9_isBetween_1 : decode cX9_isBetween 1 = .ok (.iload_n 1, 1) := by decide +kernel
theorem dX9_isBetween_2 : decode cX9_isBetween 2 = .ok (.if_icmp .lt 12, 3) := by decide +kernel
theorem dX9_isBetween_5 : decode cX9_isBetween 5 = .ok (.iload_n 0, 1) := by decide +kernel
theorem dX9_isBetween_6 : decode cX9_isBetween 6 = .ok (.iload_n 2, 1) := by decide +kernel
theorem dX9_isBetween_7 : decode cX9_isBetween 7 = .ok (.if_icmp .gt 7, 3) := by decide +kernel
theorem dX9_isBetween_10 : decode cX9_isBetween 10 = .ok (.iconst 1, 1) := by decide +kernel
theorem dX9_isBetween_11 : decode cX9_isBetween 11 = .ok (.goto 4, 3) := by decide +kernel
theorem dX9_isBetween_14 : decode cX9_isBetween 14 = .ok (.iconst 0, 1) := by decide +kernel
theorem dX9_isBetween_15 : decode cX9_isBetween 15 = .ok (.ireturn, 1) := by decide +kernel
abbrev rm_X9_isBetween : Room := { frames := 0, cells := 0, slots := 0, locals := 0 }
theorem w_X9_isBetween_e {X : gX} {σ : sg} {p0 : Int32} {p1 : Int32} {p2 : Int32} {r0 : Int32} (C : gC X cX9_isBetween 3 RX9 (some .boolean) rm_X9_isBetween)  (hQ : gQ X (qI (XG X) r0 σ)) (hf : f_X9_isBetween σ p0 p1 p2 = some r0) : G X 3 σ 0 [(0, .int p0), (1, .int p1), (2, .int p2)] [] := by
  unfold f_X9_isBetween at hf
  refine g_iload_n C 0 dX9_isBetween_0 rfl ?_
  refine g_iload_n C 1 dX9_isBetween_1 rfl ?_
  refine g_icmp_lt C 14 hf dX9_isBetween_2 (by decide) (fun hf => ?_) (fun hf => ?_)
  · refine g_iconst C (v := 0) dX9_isBetween_14 rfl ?_
    have e0 : r0 = (0 : Int32) := (Option.some.inj hf).symm
    exact g_iret C rfl hQ (by rw [e0]) rfl dX9_isBetween_15
  · refine g_iload_n C 0 dX9_isBetween_5 rfl ?_
    refine g_iload_n C 2 dX9_isBetween_6 rfl ?_
    refine g_icmp_gt C 14 hf dX9_isBetween_7 (by decide) (fun hf => ?_) (fun hf => ?_)
    · refine g_iconst C (v := 0) dX9_isBetween_14 rfl ?_
      have e0 : r0 = (0 : Int32) := (Option.some.inj hf).symm
      exact g_iret C rfl hQ (by rw [e0]) rfl dX9_isBetween_15
    · refine g_iconst C (v := 1) dX9_isBetween_10 rfl ?_
      refine g_goto C 15 dX9_isBetween_11 (by decide) ?_
      have e0 : r0 = (1 : Int32) := (Option.some.inj hf).symm
      exact g_iret C rfl hQ (by rw [e0]) rfl dX9_isBetween_15
theorem c_X9_isBetween (l : Launch) {Gw : gW} (hI : g_I Gw) {σ : sg} {p0 : Int32} {p1 : Int32} {p2 : Int32} {r : Int32}  (hf : f_X9_isBetween σ p0 p1 p2 = some r) : gM l Gw yX9_isBetween cX9_isBetween 3 (some .boolean) rm_X9_isBetween [.int p0, .int p1, .int p2] σ (qI (Gw) r σ) := by
  refine g_met hI (by decide) (Nat.le_of_ble_eq_true rfl) (fun X h1 h2 C hQ => ?_)
  subst h1; subst h2
  exact w_X9_isBetween_e C  hQ hf
theorem dX9_isRegister_0 : decode cX9_isRegister 0 = .ok (.iload_n 0, 1) := by decide +kernel
theorem dX9_isRegister_1 : decode cX9_isRegister 1 = .ok (.iconst 0, 1) := by decide +kernel
theorem dX9_isRegister_2 : decode cX9_isRegister 2 = .ok (.bipush 7, 2) := by decide +kernel
theorem dX9_isRegister_4 : decode cX9_isRegister 4 = .ok (.invokestatic 77, 3) := by decide +kernel
theorem dX9_isRegister_7 : decode cX9_isRegister 7 = .ok (.ireturn, 1) := by decide +kernel
abbrev rm_X9_isRegister : Room := { frames := 1, cells := 0, slots := 0, locals := 22 }
theorem w_X9_isRegister_e {X : gX} {σ : sg} {p0 : Int32} {r0 : Int32} (C : gC X cX9_isRegister 1 RX9 (some .boolean) rm_X9_isRegister)  (hQ : gQ X (qI (XG X) r0 σ)) (hf : f_X9_isRegister σ p0 = some r0) : G X 1 σ 0 [(0, .int p0)] [] := by
  unfold f_X9_isRegister at hf
  refine g_iload_n C 0 dX9_isRegister_0 rfl ?_
  refine g_iconst C (v := 0) dX9_isRegister_1 rfl ?_
  refine g_bipush C (v := 7) dX9_isRegister_2 rfl ?_
  obtain ⟨v4, h1, hf⟩ := g_bind hf
  refine g_callSi C 3 [.int p0, .int (0 : Int32), .int (7 : Int32)] (c_X9_isBetween (Xl X) (gC_I C)  h1) ⟨wml_771, wst_772, win_10, wcd_773⟩ hd_X9_isBetween ⟨rfl, rfl⟩ ⟨Nat.le_of_ble_eq_true rfl, Nat.le_of_ble_eq_true rfl⟩ rfl rfl (Nat.le_of_ble_eq_true rfl) dX9_isRegister_4 ?_
  clear h1
  refine g_if hf (fun hf hz => ?_) (fun hf _ => by cases hf)
  have e0 : r0 = v4 := (Option.some.inj hf).symm
  exact g_iret C rfl hQ (by rw [e0]) (g_nz hz) dX9_isRegister_7
theorem c_X9_isRegister (l : Launch) {Gw : gW} (hI : g_I Gw) {σ : sg} {p0 : Int32} {r : Int32}  (hf : f_X9_isRegister σ p0 = some r) : gM l Gw yX9_isRegister cX9_isRegister 1 (some .boolean) rm_X9_isRegister [.int p0] σ (qI (Gw) r σ) := by
  refine g_met hI (by decide) (Nat.le_of_ble_eq_true rfl) (fun X h1 h2 C hQ => ?_)
  subst h1; subst h2
  exact w_X9_isRegister_e C  hQ hf
theorem dX9_copy_0 : decode cX9_copy 0 = .ok (.iconst 0, 1) := by decide +kernel
theorem dX9_copy_1 : decode cX9_copy 1 = .ok (.istore_n 2, 1) := by decide +kernel
theorem dX9_copy_2 : decode cX9_copy 2 = .ok (.iload_n 2, 1) := by decide +kernel
theorem dX9_copy_3 : decode cX9_copy 3 = .ok (.sipush 160, 3) := by decide +kernel
theorem dX9_copy_6 : decode cX9_copy 6 = .ok (.if_icmp .ge 27, 3) := by decide +kernel
theorem dX9_copy_9 : decode cX9_copy 9 = .ok (.aload_n 1, 1) := by decide +kernel
theorem dX9_copy_10 : decode cX9_copy 10 = .ok (.iload_n 2, 1) := by decide +kernel
theorem dX9_copy_11 : decode cX9_copy 11 = .ok (.iconst 4, 1) := by decide +kernel
theorem dX9_copy_12 : decode cX9_copy 12 = .ok (.idiv, 1) := by decide +kernel
theorem dX9_copy_13 : decode cX9_copy 13 = .ok (.aaload, 1) := by decide +kernel
theorem dX9_copy_14 : decode cX9_copy 14 = .ok (.iload_n 2, 1) := by decide +kernel
theorem dX9_copy_15 : decode cX9_copy 15 = .ok (.iconst 4, 1) := by decide +kernel
theorem dX9_copy_16 : decode cX9_copy 16 = .ok (.irem, 1) := by decide +kernel
theorem dX9_copy_17 : decode cX9_copy 17 = .ok (.aload_n 0, 1) := by decide +kernel
theorem dX9_copy_18 : decode cX9_copy 18 = .ok (.iload_n 2, 1) := by decide +kernel
theorem dX9_copy_19 : decode cX9_copy 19 = .ok (.iconst 4, 1) := by decide +kernel
theorem dX9_copy_20 : decode cX9_copy 20 = .ok (.idiv, 1) := by decide +kernel
theorem dX9_copy_21 : decode cX9_copy 21 = .ok (.aaload, 1) := by decide +kernel
theorem dX9_copy_22 : decode cX9_copy 22 = .ok (.iload_n 2, 1) := by decide +kernel
theorem dX9_copy_23 : decode cX9_copy 23 = .ok (.iconst 4, 1) := by decide +kernel
theorem dX9_copy_24 : decode cX9_copy 24 = .ok (.irem, 1) := by decide +kernel
theorem dX9_copy_25 : decode cX9_copy 25 = .ok (.iaload, 1) := by decide +kernel
theorem dX9_copy_26 : decode cX9_copy 26 = .ok (.iastore, 1) := by decide +kernel
theorem dX9_copy_27 : decode cX9_copy 27 = .ok (.iinc 2 1, 3) := by decide +kernel
theorem dX9_copy_30 : decode cX9_copy 30 = .ok (.goto (-28), 3) := by decide +kernel
theorem dX9_copy_33 : decode cX9_copy 33 = .ok (.return_, 1) := by decide +kernel
abbrev rm_X9_copy : Room := { frames := 0, cells := 0, slots := 0, locals := 0 }
theorem w_X9_copy_2 {X : gX} {p0 : Nat} {p1 : Nat} {x2 : Int32} {σ : sg} {r0 : sg} {r1 : ((Int32 × sg) ⊕ sg)} (C : gC X cX9_copy 3 RX9 none rm_X9_copy)  (hQ : gQ X (qV (XG X) r0)) (A1 : ∀ b, r1 = .inl b → G X 3 b.2 2 [(0, .ref (Xd X p0)), (1, .ref (Xd X p1)), (2, .int b.1)] []) (B1 : ∀ b, r1 = .inr b → b = r0) (hf : B_X9_copy_2 p0 p1 x2 σ = some r1) : G X 3 σ 2 [(0, .ref (Xd X p0)), (1, .ref (Xd X p1)), (2, .int x2)] [] := by
  unfold B_X9_copy_2 at hf
  refine g_iload_n C 2 dX9_copy_2 rfl ?_
  refine g_sipush C (v := 160) dX9_copy_3 rfl ?_
  refine g_icmp_ge C 33 hf dX9_copy_6 (by decide) (fun hf => ?_) (fun hf => ?_)
  · have e0 : r0 = σ := (B1 _ (Option.some.inj hf).symm).symm
    exact g_vret C rfl hQ (by rw [e0]) dX9_copy_33
  · refine g_aload_n C 1 dX9_copy_9 rfl ?_
    refine g_iload_n C 2 dX9_copy_10 rfl ?_
    refine g_iconst C (v := 4) dX9_copy_11 rfl ?_
    refine g_idiv C dX9_copy_12 (by decide) ?_
    obtain ⟨q13, h1, hf⟩ := g_bind hf
    refine g_aald C h1 dX9_copy_13 ?_
    clear h1
    refine g_iload_n C 2 dX9_copy_14 rfl ?_
    refine g_iconst C (v := 4) dX9_copy_15 rfl ?_
    refine g_irem C dX9_copy_16 (by decide) ?_
    refine g_aload_n C 0 dX9_copy_17 rfl ?_
    refine g_iload_n C 2 dX9_copy_18 rfl ?_
    refine g_iconst C (v := 4) dX9_copy_19 rfl ?_
    refine g_idiv C dX9_copy_20 (by decide) ?_
    obtain ⟨q21, h1, hf⟩ := g_bind hf
    refine g_aald C h1 dX9_copy_21 ?_
    clear h1
    refine g_iload_n C 2 dX9_copy_22 rfl ?_
    refine g_iconst C (v := 4) dX9_copy_23 rfl ?_
    refine g_irem C dX9_copy_24 (by decide) ?_
    obtain ⟨v25, h1, hf⟩ := g_bind hf
    refine g_iald C h1 dX9_copy_25 ?_
    clear h1
    obtain ⟨s26, h1, hf⟩ := g_bind hf
    refine g_iast C h1 dX9_copy_26 ?_
    clear h1
    refine g_iinc C (v := x2 + (1 : Int32)) (lv' := [(2, .int (x2 + (1 : Int32))), (0, .ref (Xd X p0)), (1, .ref (Xd X p1))]) 2 dX9_copy_27 rfl rfl (by decide) rfl ?_
    refine g_goto C 2 dX9_copy_30 (by decide) ?_
    refine g_sub [1, 2, 0] rfl ?_
    exact A1 (x2 + (1 : Int32), s26) (Option.some.inj hf).symm
theorem wl_X9_copy_2 {X : gX} {p0 : Nat} {p1 : Nat} {r0 : sg} (C : gC X cX9_copy 3 RX9 none rm_X9_copy)  (hQ : gQ X (qV (XG X) r0))  {n : Nat} {a : (Int32 × sg)} (hf : L_X9_copy_2 p0 p1 n a = some r0) : G X 3 a.2 2 [(0, .ref (Xd X p0)), (1, .ref (Xd X p1)), (2, .int a.1)] [] := by
  unfold L_X9_copy_2 at hf
  have key := g_loop_ind (res := r0) (f := fun a => B_X9_copy_2 p0 p1 a.1 a.2) (P := fun a => G X 3 a.2 2 [(0, .ref (Xd X p0)), (1, .ref (Xd X p1)), (2, .int a.1)] []) (fun a r1 h1 k1 k2 => w_X9_copy_2 (x2 := a.1) (σ := a.2) C  hQ  k1 k2 h1)
  exact key n a hf
theorem w_X9_copy_e {X : gX} {σ : sg} {p0 : Nat} {p1 : Nat} {r0 : sg} (C : gC X cX9_copy 3 RX9 none rm_X9_copy)  (hQ : gQ X (qV (XG X) r0)) (hf : f_X9_copy σ p0 p1 = some r0) : G X 3 σ 0 [(0, .ref (Xd X p0)), (1, .ref (Xd X p1))] [] := by
  unfold f_X9_copy at hf
  refine g_iconst C (v := 0) dX9_copy_0 rfl ?_
  refine g_istore_n C (lv' := [(2, .int (0 : Int32)), (0, .ref (Xd X p0)), (1, .ref (Xd X p1))]) dX9_copy_1 (by decide) rfl ?_
  refine g_sub [1, 2, 0] rfl ?_
  exact wl_X9_copy_2 (a := ((0 : Int32), σ)) C  hQ  hf
theorem c_X9_copy (l : Launch) {Gw : gW} (hI : g_I Gw) {σ : sg} {p0 : Nat} {p1 : Nat} {r : sg}  (hf : f_X9_copy σ p0 p1 = some r) : gM l Gw yX9_copy cX9_copy 3 none rm_X9_copy [.ref (Gw.2.2 p0), .ref (Gw.2.2 p1)] σ (qV (Gw) r) := by
  refine g_met hI (by decide) (Nat.le_of_ble_eq_true rfl) (fun X h1 h2 C hQ => ?_)
  subst h1; subst h2
  exact w_X9_copy_e C  hQ hf
theorem dX9_remember_0 : decode cX9_remember 0 = .ok (.aload_n 0, 1) := by decide +kernel
theorem dX9_remember_1 : decode cX9_remember 1 = .ok (.getfield 81, 3) := by decide +kernel
theorem dX9_remember_4 : decode cX9_remember 4 = .ok (.bipush 10, 2) := by decide +kernel
theorem dX9_remember_6 : decode cX9_remember 6 = .ok (.if_icmp .ne 60, 3) := by decide +kernel
theorem dX9_remember_9 : decode cX9_remember 9 = .ok (.aload_n 0, 1) := by decide +kernel
theorem dX9_remember_10 : decode cX9_remember 10 = .ok (.dup, 1) := by decide +kernel
theorem dX9_remember_11 : decode cX9_remember 11 = .ok (.getfield 81, 3) := by decide +kernel
theorem dX9_remember_14 : decode cX9_remember 14 = .ok (.iconst 1, 1) := by decide +kernel
theorem dX9_remember_15 : decode cX9_remember 15 = .ok (.isub, 1) := by decide +kernel
theorem dX9_remember_16 : decode cX9_remember 16 = .ok (.putfield 81, 3) := by decide +kernel
theorem dX9_remember_19 : decode cX9_remember 19 = .ok (.iconst 0, 1) := by decide +kernel
theorem dX9_remember_20 : decode cX9_remember 20 = .ok (.istore_n 1, 1) := by decide +kernel
theorem dX9_remember_21 : decode cX9_remember 21 = .ok (.iload_n 1, 1) := by decide +kernel
theorem dX9_remember_22 : decode cX9_remember 22 = .ok (.aload_n 0, 1) := by decide +kernel
theorem dX9_remember_23 : decode cX9_remember 23 = .ok (.getfield 81, 3) := by decide +kernel
theorem dX9_remember_26 : decode cX9_remember 26 = .ok (.if_icmp .ge 40, 3) := by decide +kernel
theorem dX9_remember_29 : decode cX9_remember 29 = .ok (.aload_n 0, 1) := by decide +kernel
theorem dX9_remember_30 : decode cX9_remember 30 = .ok (.getfield 19, 3) := by decide +kernel
theorem dX9_remember_33 : decode cX9_remember 33 = .ok (.iload_n 1, 1) := by decide +kernel
theorem dX9_remember_34 : decode cX9_remember 34 = .ok (.aload_n 0, 1) := by decide +kernel
theorem dX9_remember_35 : decode cX9_remember 35 = .ok (.getfield 19, 3) := by decide +kernel
theorem dX9_remember_38 : decode cX9_remember 38 = .ok (.iload_n 1, 1) := by decide +kernel
theorem dX9_remember_39 : decode cX9_remember 39 = .ok (.iconst 1, 1) := by decide +kernel
theorem dX9_remember_40 : decode cX9_remember 40 = .ok (.iadd, 1) := by decide +kernel
theorem dX9_remember_41 : decode cX9_remember 41 = .ok (.iaload, 1) := by decide +kernel
theorem dX9_remember_42 : decode cX9_remember 42 = .ok (.iastore, 1) := by decide +kernel
theorem dX9_remember_43 : decode cX9_remember 43 = .ok (.aload_n 0, 1) := by decide +kernel
theorem dX9_remember_44 : decode cX9_remember 44 = .ok (.getfield 16, 3) := by decide +kernel
theorem dX9_remember_47 : decode cX9_remember 47 = .ok (.iload_n 1, 1) := by decide +kernel
theorem dX9_remember_48 : decode cX9_remember 48 = .ok (.iconst 1, 1) := by decide +kernel
theorem dX9_remember_49 : decode cX9_remember 49 = .ok (.iadd, 1) := by decide +kernel
theorem dX9_remember_50 : decode cX9_remember 50 = .ok (.aaload, 1) := by decide +kernel
theorem dX9_remember_51 : decode cX9_remember 51 = .ok (.aload_n 0, 1) := by decide +kernel
theorem dX9_remember_52 : decode cX9_remember 52 = .ok (.getfield 16, 3) := by decide +kernel
theorem dX9_remember_55 : decode cX9_remember 55 = .ok (.iload_n 1, 1) := by decide +kernel
theorem dX9_remember_56 : decode cX9_remember 56 = .ok (.aaload, 1) := by decide +kernel
theorem dX9_remember_57 : decode cX9_remember 57 = .ok (.invokestatic 85, 3) := by decide +kernel
theorem dX9_remember_60 : decode cX9_remember 60 = .ok (.iinc 1 1, 3) := by decide +kernel
theorem dX9_remember_63 : decode cX9_remember 63 = .ok (.goto (-42), 3) := by decide +kernel
theorem dX9_remember_66 : decode cX9_remember 66 = .ok (.aload_n 0, 1) := by decide +kernel
theorem dX9_remember_67 : decode cX9_remember 67 = .ok (.getfield 19, 3) := by decide +kernel
theorem dX9_remember_70 : decode cX9_remember 70 = .ok (.aload_n 0, 1) := by decide +kernel
theorem dX9_remember_71 : decode cX9_remember 71 = .ok (.getfield 81, 3) := by decide +kernel
theorem dX9_remember_74 : decode cX9_remember 74 = .ok (.aload_n 0, 1) := by decide +kernel
theorem dX9_remember_75 : decode cX9_remember 75 = .ok (.getfield 89, 3) := by decide +kernel
theorem dX9_remember_78 : decode cX9_remember 78 = .ok (.iastore, 1) := by decide +kernel
theorem dX9_remember_79 : decode cX9_remember 79 = .ok (.aload_n 0, 1) := by decide +kernel
theorem dX9_remember_80 : decode cX9_remember 80 = .ok (.getfield 11, 3) := by decide +kernel
theorem dX9_remember_83 : decode cX9_remember 83 = .ok (.aload_n 0, 1) := by decide +kernel
theorem dX9_remember_84 : decode cX9_remember 84 = .ok (.getfield 16, 3) := by decide +kernel
theorem dX9_remember_87 : decode cX9_remember 87 = .ok (.aload_n 0, 1) := by decide +kernel
theorem dX9_remember_88 : decode cX9_remember 88 = .ok (.getfield 81, 3) := by decide +kernel
theorem dX9_remember_91 : decode cX9_remember 91 = .ok (.aaload, 1) := by decide +kernel
theorem dX9_remember_92 : decode cX9_remember 92 = .ok (.invokestatic 85, 3) := by decide +kernel
theorem dX9_remember_95 : decode cX9_remember 95 = .ok (.aload_n 0, 1) := by decide +kernel
theorem dX9_remember_96 : decode cX9_remember 96 = .ok (.dup, 1) := by decide +kernel
theorem dX9_remember_97 : decode cX9_remember 97 = .ok (.getfield 81, 3) := by decide +kernel
theorem dX9_remember_100 : decode cX9_remember 100 = .ok (.iconst 1, 1) := by decide +kernel
theorem dX9_remember_101 : decode cX9_remember 101 = .ok (.iadd, 1) := by decide +kernel
theorem dX9_remember_102 : decode cX9_remember 102 = .ok (.putfield 81, 3) := by decide +kernel
theorem dX9_remember_105 : decode cX9_remember 105 = .ok (.return_, 1) := by decide +kernel
abbrev rm_X9_remember : Room := { frames := 1, cells := 0, slots := 0, locals := 22 }
theorem w_X9_remember_66 {X : gX} {σ : sg} {r0 : sg} (C : gC X cX9_remember 2 RX9 none rm_X9_remember)  (hQ : gQ X (qV (XG X) r0))  (hf : J_X9_remember_66 σ = some r0) : G X 2 σ 66 [(0, .ref (Xd X 157))] [] := by
  unfold J_X9_remember_66 at hf
  refine g_aload_n C 0 dX9_remember_66 rfl ?_
  refine g_getr C 9 3 (610) (by decide) sh_157 rfl vc_9 (by decide) inXX9 wfl_664 dX9_remember_67 ?_
  refine g_aload_n C 0 dX9_remember_70 rfl ?_
  refine g_geti C 9 4 (by decide) sh_157 rfl vc_9 (by decide) inXX9 wfl_665 dX9_remember_71 ?_
  refine g_aload_n C 0 dX9_remember_74 rfl ?_
  refine g_geti C 9 0 (by decide) sh_157 rfl vc_9 (by decide) inXX9 wfl_661 dX9_remember_75 ?_
  obtain ⟨s78, h1, hf⟩ := g_bind hf
  refine g_iast C h1 dX9_remember_78 ?_
  clear h1
  refine g_aload_n C 0 dX9_remember_79 rfl ?_
  refine g_getr C 9 1 (158) (by decide) sh_157 rfl vc_9 (by decide) inXX9 wfl_662 dX9_remember_80 ?_
  refine g_aload_n C 0 dX9_remember_83 rfl ?_
  refine g_getr C 9 2 (199) (by decide) sh_157 rfl vc_9 (by decide) inXX9 wfl_663 dX9_remember_84 ?_
  refine g_aload_n C 0 dX9_remember_87 rfl ?_
  refine g_geti C 9 4 (by decide) sh_157 rfl vc_9 (by decide) inXX9 wfl_665 dX9_remember_88 ?_
  obtain ⟨q91, h1, hf⟩ := g_bind hf
  refine g_aald C h1 dX9_remember_91 ?_
  clear h1
  obtain ⟨s92, h1, hf⟩ := g_bind hf
  refine g_callSv C 2 [.ref (Xd X 158), .ref (Xd X q91)] (c_X9_copy (Xl X) (gC_I C)  h1) ⟨wml_781, wst_782, win_10, wcd_783⟩ hd_X9_copy ⟨rfl, rfl⟩ ⟨Nat.le_of_ble_eq_true rfl, Nat.le_of_ble_eq_true rfl⟩ rfl rfl (Nat.le_of_ble_eq_true rfl) dX9_remember_92 ?_
  clear h1
  refine g_aload_n C 0 dX9_remember_95 rfl ?_
  refine g_dup C dX9_remember_96 rfl ?_
  refine g_geti C 9 4 (by decide) sh_157 rfl vc_9 (by decide) inXX9 wfl_665 dX9_remember_97 ?_
  refine g_iconst C (v := 1) dX9_remember_100 rfl ?_
  refine g_iadd C dX9_remember_101 ?_
  obtain ⟨s102, h1, hf⟩ := g_bind hf
  refine g_put C 9 4 (by decide) sh_157 rfl (by decide) vc_9 (by decide) tyX9 tyX9_ok nmX9 inXX9 wfl_665 rfl (ty := .int) (by decide +kernel) rfl rfl dX9_remember_102 ?_
  rw [Option.some.inj h1]
  clear h1
  have e0 : r0 = s102 := (Option.some.inj hf).symm
  exact g_vret C rfl hQ (by rw [e0]) dX9_remember_105
theorem w_X9_remember_21 {X : gX} {x1 : Int32} {σ : sg} {r0 : sg} {r1 : ((Int32 × sg) ⊕ sg)} (C : gC X cX9_remember 2 RX9 none rm_X9_remember)  (hQ : gQ X (qV (XG X) r0)) (A1 : ∀ b, r1 = .inl b → G X 2 b.2 21 [(0, .ref (Xd X 157)), (1, .int b.1)] []) (B1 : ∀ b, r1 = .inr b → b = r0) (hf : B_X9_remember_21 x1 σ = some r1) : G X 2 σ 21 [(0, .ref (Xd X 157)), (1, .int x1)] [] := by
  unfold B_X9_remember_21 at hf
  refine g_iload_n C 1 dX9_remember_21 rfl ?_
  refine g_aload_n C 0 dX9_remember_22 rfl ?_
  refine g_geti C 9 4 (by decide) sh_157 rfl vc_9 (by decide) inXX9 wfl_665 dX9_remember_23 ?_
  refine g_icmp_ge C 66 hf dX9_remember_26 (by decide) (fun hf => ?_) (fun hf => ?_)
  · refine g_sub [0] rfl ?_
    obtain ⟨t, h1, hf⟩ := g_bind hf
    exact w_X9_remember_66 C  hQ  (h1.trans (congrArg some ((B1 _ (Option.some.inj hf).symm).symm).symm))
  · refine g_aload_n C 0 dX9_remember_29 rfl ?_
    refine g_getr C 9 3 (610) (by decide) sh_157 rfl vc_9 (by decide) inXX9 wfl_664 dX9_remember_30 ?_
    refine g_iload_n C 1 dX9_remember_33 rfl ?_
    refine g_aload_n C 0 dX9_remember_34 rfl ?_
    refine g_getr C 9 3 (610) (by decide) sh_157 rfl vc_9 (by decide) inXX9 wfl_664 dX9_remember_35 ?_
    refine g_iload_n C 1 dX9_remember_38 rfl ?_
    refine g_iconst C (v := 1) dX9_remember_39 rfl ?_
    refine g_iadd C dX9_remember_40 ?_
    obtain ⟨v41, h1, hf⟩ := g_bind hf
    refine g_iald C h1 dX9_remember_41 ?_
    clear h1
    obtain ⟨s42, h1, hf⟩ := g_bind hf
    refine g_iast C h1 dX9_remember_42 ?_
    clear h1
    refine g_aload_n C 0 dX9_remember_43 rfl ?_
    refine g_getr C 9 2 (199) (by decide) sh_157 rfl vc_9 (by decide) inXX9 wfl_663 dX9_remember_44 ?_
    refine g_iload_n C 1 dX9_remember_47 rfl ?_
    refine g_iconst C (v := 1) dX9_remember_48 rfl ?_
    refine g_iadd C dX9_remember_49 ?_
    obtain ⟨q50, h1, hf⟩ := g_bind hf
    refine g_aald C h1 dX9_remember_50 ?_
    clear h1
    refine g_aload_n C 0 dX9_remember_51 rfl ?_
    refine g_getr C 9 2 (199) (by decide) sh_157 rfl vc_9 (by decide) inXX9 wfl_663 dX9_remember_52 ?_
    refine g_iload_n C 1 dX9_remember_55 rfl ?_
    obtain ⟨q56, h1, hf⟩ := g_bind hf
    refine g_aald C h1 dX9_remember_56 ?_
    clear h1
    obtain ⟨s57, h1, hf⟩ := g_bind hf
    refine g_callSv C 2 [.ref (Xd X q50), .ref (Xd X q56)] (c_X9_copy (Xl X) (gC_I C)  h1) ⟨wml_781, wst_782, win_10, wcd_783⟩ hd_X9_copy ⟨rfl, rfl⟩ ⟨Nat.le_of_ble_eq_true rfl, Nat.le_of_ble_eq_true rfl⟩ rfl rfl (Nat.le_of_ble_eq_true rfl) dX9_remember_57 ?_
    clear h1
    refine g_iinc C (v := x1 + (1 : Int32)) (lv' := [(1, .int (x1 + (1 : Int32))), (0, .ref (Xd X 157))]) 1 dX9_remember_60 rfl rfl (by decide) rfl ?_
    refine g_goto C 21 dX9_remember_63 (by decide) ?_
    refine g_sub [1, 0] rfl ?_
    exact A1 (x1 + (1 : Int32), s57) (Option.some.inj hf).symm
theorem wl_X9_remember_21 {X : gX}  {r0 : sg} (C : gC X cX9_remember 2 RX9 none rm_X9_remember)  (hQ : gQ X (qV (XG X) r0))  {n : Nat} {a : (Int32 × sg)} (hf : L_X9_remember_21  n a = some r0) : G X 2 a.2 21 [(0, .ref (Xd X 157)), (1, .int a.1)] [] := by
  unfold L_X9_remember_21 at hf
  have key := g_loop_ind (res := r0) (f := fun a => B_X9_remember_21 a.1 a.2) (P := fun a => G X 2 a.2 21 [(0, .ref (Xd X 157)), (1, .int a.1)] []) (fun a r1 h1 k1 k2 => w_X9_remember_21 (x1 := a.1) (σ := a.2) C  hQ  k1 k2 h1)
  exact key n a hf
theorem w_X9_remember_e {X : gX} {σ : sg}  {r0 : sg} (C : gC X cX9_remember 2 RX9 none rm_X9_remember)  (hQ : gQ X (qV (XG X) r0)) (hf : f_X9_remember σ = some r0) : G X 2 σ 0 [(0, .ref (Xd X 157))] [] := by
  unfold f_X9_remember at hf
  refine g_aload_n C 0 dX9_remember_0 rfl ?_
  refine g_geti C 9 4 (by decide) sh_157 rfl vc_9 (by decide) inXX9 wfl_665 dX9_remember_1 ?_
  refine g_bipush C (v := 10) dX9_remember_4 rfl ?_
  refine g_icmp_ne C 66 hf dX9_remember_6 (by decide) (fun hf => ?_) (fun hf => ?_)
  · refine g_aload_n C 0 dX9_remember_9 rfl ?_
    refine g_dup C dX9_remember_10 rfl ?_
    refine g_geti C 9 4 (by decide) sh_157 rfl vc_9 (by decide) inXX9 wfl_665 dX9_remember_11 ?_
    refine g_iconst C (v := 1) dX9_remember_14 rfl ?_
    refine g_isub C dX9_remember_15 ?_
    obtain ⟨s16, h1, hf⟩ := g_bind hf
    refine g_put C 9 4 (by decide) sh_157 rfl (by decide) vc_9 (by decide) tyX9 tyX9_ok nmX9 inXX9 wfl_665 rfl (ty := .int) (by decide +kernel) rfl rfl dX9_remember_16 ?_
    rw [Option.some.inj h1]
    clear h1
    refine g_iconst C (v := 0) dX9_remember_19 rfl ?_
    refine g_istore_n C (lv' := [(1, .int (0 : Int32)), (0, .ref (Xd X 157))]) dX9_remember_20 (by decide) rfl ?_
    refine g_sub [1, 0] rfl ?_
    exact wl_X9_remember_21 (a := ((0 : Int32), s16)) C  hQ  hf
  · exact w_X9_remember_66 C  hQ  hf
theorem c_X9_remember (l : Launch) {Gw : gW} (hI : g_I Gw) {σ : sg}  {r : sg}  (hf : f_X9_remember σ = some r) : gM l Gw yX9_remember cX9_remember 2 none rm_X9_remember [.ref (Gw.2.2 157)] σ (qV (Gw) r) := by
  refine g_met hI (by decide) (Nat.le_of_ble_eq_true rfl) (fun X h1 h2 C hQ => ?_)
  subst h1; subst h2
  exact w_X9_remember_e C  hQ hf
theorem dX9_isInstruction_0 : decode cX9_isInstruction 0 = .ok (.iload_n 0, 1) := by decide +kernel
theorem dX9_isInstruction_1 : decode cX9_isInstruction 1 = .ok (.iconst 0, 1) := by decide +kernel
theorem dX9_isInstruction_2 : decode cX9_isInstruction 2 = .ok (.bipush 12, 2) := by decide +kernel
theorem dX9_isInstruction_4 : decode cX9_isInstruction 4 = .ok (.invokestatic 77, 3) := by decide +kernel
theorem dX9_isInstruction_7 : decode cX9_isInstruction 7 = .ok (.ifCond .ne 5, 3) := by decide +kernel
theorem dX9_isInstruction_10 : decode cX9_isInstruction 10 = .ok (.iconst 0, 1) := by decide +kernel
theorem dX9_isInstruction_11 : decode cX9_isInstruction 11 = .ok (.ireturn, 1) := by decide +kernel
theorem dX9_isInstruction_12 : decode cX9_isInstruction 12 = .ok (.iload_n 0, 1) := by decide +kernel
theorem dX9_isInstruction_13 : decode cX9_isInstruction 13 = .ok (.ifCond .ne 33, 3) := by decide +kernel
theorem dX9_isInstruction_16 : decode cX9_isInstruction 16 = .ok (.iload_n 1, 1) := by decide +kernel
theorem dX9_isInstruction_17 : decode cX9_isInstruction 17 = .ok (.invokestatic 92, 3) := by decide +kernel
theorem dX9_isInstruction_20 : decode cX9_isInstruction 20 = .ok (.ifCond .eq 24, 3) := by decide +kernel
theorem dX9_isInstruction_23 : decode cX9_isInstruction 23 = .ok (.iload_n 2, 1) := by decide +kernel
theorem dX9_isInstruction_24 : decode cX9_isInstruction 24 = .ok (.sipush (-999), 3) := by decide +kernel
theorem dX9_isInstruction_27 : decode cX9_isInstruction 27 = .ok (.sipush 999, 3) := by decide +kernel
theorem dX9_isInstruction_30 : decode cX9_isInstruction 30 = .ok (.invokestatic 77, 3) := by decide +kernel
theorem dX9_isInstruction_33 : decode cX9_isInstruction 33 = .ok (.ifCond .eq 11, 3) := by decide +kernel
theorem dX9_isInstruction_36 : decode cX9_isInstruction 36 = .ok (.iload_n 3, 1) := by decide +kernel
theorem dX9_isInstruction_37 : decode cX9_isInstruction 37 = .ok (.ifCond .ne 7, 3) := by decide +kernel
theorem dX9_isInstruction_40 : decode cX9_isInstruction 40 = .ok (.iconst 1, 1) := by decide +kernel
theorem dX9_isInstruction_41 : decode cX9_isInstruction 41 = .ok (.goto 4, 3) := by decide +kernel
theorem dX9_isInstruction_44 : decode cX9_isInstruction 44 = .ok (.iconst 0, 1) := by decide +kernel
theorem dX9_isInstruction_45 : decode cX9_isInstruction 45 = .ok (.ireturn, 1) := by decide +kernel
theorem dX9_isInstruction_46 : decode cX9_isInstruction 46 = .ok (.iload_n 0, 1) := by decide +kernel
theorem dX9_isInstruction_47 : decode cX9_isInstruction 47 = .ok (.bipush 8, 2) := by decide +kernel
theorem dX9_isInstruction_49 : decode cX9_isInstruction 49 = .ok (.if_icmp .ge 30, 3) := by decide +kernel
theorem dX9_isInstruction_52 : decode cX9_isInstruction 52 = .ok (.iload_n 1, 1) := by decide +kernel
theorem dX9_isInstruction_53 : decode cX9_isInstruction 53 = .ok (.invokestatic 92, 3) := by decide +kernel
theorem dX9_isInstruction_56 : decode cX9_isInstruction 56 = .ok (.ifCond .eq 21, 3) := by decide +kernel
theorem dX9_isInstruction_59 : decode cX9_isInstruction 59 = .ok (.iload_n 2, 1) := by decide +kernel
theorem dX9_isInstruction_60 : decode cX9_isInstruction 60 = .ok (.invokestatic 92, 3) := by decide +kernel
theorem dX9_isInstruction_63 : decode cX9_isInstruction 63 = .ok (.ifCond .eq 14, 3) := by decide +kernel
theorem dX9_isInstruction_66 : decode cX9_isInstruction 66 = .ok (.iload_n 3, 1) := by decide +kernel
theorem dX9_isInstruction_67 : decode cX9_isInstruction 67 = .ok (.invokestatic 92, 3) := by decide +kernel
theorem dX9_isInstruction_70 : decode cX9_isInstruction 70 = .ok (.ifCond .eq 7, 3) := by decide +kernel
theorem dX9_isInstruction_73 : decode cX9_isInstruction 73 = .ok (.iconst 1, 1) := by decide +kernel
theorem dX9_isInstruction_74 : decode cX9_isInstruction 74 = .ok (.goto 4, 3) := by decide +kernel
theorem dX9_isInstruction_77 : decode cX9_isInstruction 77 = .ok (.iconst 0, 1) := by decide +kernel
theorem dX9_isInstruction_78 : decode cX9_isInstruction 78 = .ok (.ireturn, 1) := by decide +kernel
theorem dX9_isInstruction_79 : decode cX9_isInstruction 79 = .ok (.iload_n 0, 1) := by decide +kernel
theorem dX9_isInstruction_80 : decode cX9_isInstruction 80 = .ok (.bipush 8, 2) := by decide +kernel
theorem dX9_isInstruction_82 : decode cX9_isInstruction 82 = .ok (.if_icmp .ne 27, 3) := by decide +kernel
theorem dX9_isInstruction_85 : decode cX9_isInstruction 85 = .ok (.iload_n 1, 1) := by decide +kernel
theorem dX9_isInstruction_86 : decode cX9_isInstruction 86 = .ok (.invokestatic 92, 3) := by decide +kernel
theorem dX9_isInstruction_89 : decode cX9_isInstruction 89 = .ok (.ifCond .eq 18, 3) := by decide +kernel
theorem dX9_isInstruction_92 : decode cX9_isInstruction 92 = .ok (.iload_n 2, 1) := by decide +kernel
theorem dX9_isInstruction_93 : decode cX9_isInstruction 93 = .ok (.invokestatic 92, 3) := by decide +kernel
theorem dX9_isInstruction_96 : decode cX9_isInstruction 96 = .ok (.ifCond .eq 11, 3) := by decide +kernel
theorem dX9_isInstruction_99 : decode cX9_isInstruction 99 = .ok (.iload_n 3, 1) := by decide +kernel
theorem dX9_isInstruction_100 : decode cX9_isInstruction 100 = .ok (.ifCond .ne 7, 3) := by decide +kernel
theorem dX9_isInstruction_103 : decode cX9_isInstruction 103 = .ok (.iconst 1, 1) := by decide +kernel
theorem dX9_isInstruction_104 : decode cX9_isInstruction 104 = .ok (.goto 4, 3) := by decide +kernel
theorem dX9_isInstruction_107 : decode cX9_isInstruction 107 = .ok (.iconst 0, 1) := by decide +kernel
theorem dX9_isInstruction_108 : decode cX9_isInstruction 108 = .ok (.ireturn, 1) := by decide +kernel
theorem dX9_isInstruction_109 : decode cX9_isInstruction 109 = .ok (.iload_n 0, 1) := by decide +kernel
theorem dX9_isInstruction_110 : decode cX9_isInstruction 110 = .ok (.bipush 9, 2) := by decide +kernel
theorem dX9_isInstruction_112 : decode cX9_isInstruction 112 = .ok (.if_icmp .ne 27, 3) := by decide +kernel
theorem dX9_isInstruction_115 : decode cX9_isInstruction 115 = .ok (.iload_n 1, 1) := by decide +kernel
theorem dX9_isInstruction_116 : decode cX9_isInstruction 116 = .ok (.ifCond .ne 21, 3) := by decide +kernel
theorem dX9_isInstruction_119 : decode cX9_isInstruction 119 = .ok (.iload_n 2, 1) := by decide +kernel
theorem dX9_isInstruction_120 : decode cX9_isInstruction 120 = .ok (.invokestatic 92, 3) := by decide +kernel
theorem dX9_isInstruction_123 : decode cX9_isInstruction 123 = .ok (.ifCond .eq 14, 3) := by decide +kernel
theorem dX9_isInstruction_126 : decode cX9_isInstruction 126 = .ok (.iload_n 3, 1) := by decide +kernel
theorem dX9_isInstruction_127 : decode cX9_isInstruction 127 = .ok (.invokestatic 92, 3) := by decide +kernel
theorem dX9_isInstruction_130 : decode cX9_isInstruction 130 = .ok (.ifCond .eq 7, 3) := by decide +kernel
theorem dX9_isInstruction_133 : decode cX9_isInstruction 133 = .ok (.iconst 1, 1) := by decide +kernel
theorem dX9_isInstruction_134 : decode cX9_isInstruction 134 = .ok (.goto 4, 3) := by decide +kernel
theorem dX9_isInstruction_137 : decode cX9_isInstruction 137 = .ok (.iconst 0, 1) := by decide +kernel
theorem dX9_isInstruction_138 : decode cX9_isInstruction 138 = .ok (.ireturn, 1) := by decide +kernel
theorem dX9_isInstruction_139 : decode cX9_isInstruction 139 = .ok (.iload_n 0, 1) := by decide +kernel
theorem dX9_isInstruction_140 : decode cX9_isInstruction 140 = .ok (.bipush 12, 2) := by decide +kernel
theorem dX9_isInstruction_142 : decode cX9_isInstruction 142 = .ok (.if_icmp .ne 21, 3) := by decide +kernel
theorem dX9_isInstruction_145 : decode cX9_isInstruction 145 = .ok (.iload_n 1, 1) := by decide +kernel
theorem dX9_isInstruction_146 : decode cX9_isInstruction 146 = .ok (.ifCond .ne 15, 3) := by decide +kernel
theorem dX9_isInstruction_149 : decode cX9_isInstruction 149 = .ok (.iload_n 2, 1) := by decide +kernel
theorem dX9_isInstruction_150 : decode cX9_isInstruction 150 = .ok (.ifCond .ne 11, 3) := by decide +kernel
theorem dX9_isInstruction_153 : decode cX9_isInstruction 153 = .ok (.iload_n 3, 1) := by decide +kernel
theorem dX9_isInstruction_154 : decode cX9_isInstruction 154 = .ok (.ifCond .ne 7, 3) := by decide +kernel
theorem dX9_isInstruction_157 : decode cX9_isInstruction 157 = .ok (.iconst 1, 1) := by decide +kernel
theorem dX9_isInstruction_158 : decode cX9_isInstruction 158 = .ok (.goto 4, 3) := by decide +kernel
theorem dX9_isInstruction_161 : decode cX9_isInstruction 161 = .ok (.iconst 0, 1) := by decide +kernel
theorem dX9_isInstruction_162 : decode cX9_isInstruction 162 = .ok (.ireturn, 1) := by decide +kernel
theorem dX9_isInstruction_163 : decode cX9_isInstruction 163 = .ok (.iload_n 1, 1) := by decide +kernel
theorem dX9_isInstruction_164 : decode cX9_isInstruction 164 = .ok (.ifCond .ne 37, 3) := by decide +kernel
theorem dX9_isInstruction_167 : decode cX9_isInstruction 167 = .ok (.iload_n 2, 1) := by decide +kernel
theorem dX9_isInstruction_168 : decode cX9_isInstruction 168 = .ok (.iconst 0, 1) := by decide +kernel
theorem dX9_isInstruction_169 : decode cX9_isInstruction 169 = .ok (.bipush 39, 2) := by decide +kernel
theorem dX9_isInstruction_171 : decode cX9_isInstruction 171 = .ok (.invokestatic 77, 3) := by decide +kernel
theorem dX9_isInstruction_174 : decode cX9_isInstruction 174 = .ok (.ifCond .eq 27, 3) := by decide +kernel
theorem dX9_isInstruction_177 : decode cX9_isInstruction 177 = .ok (.iload_n 0, 1) := by decide +kernel
theorem dX9_isInstruction_178 : decode cX9_isInstruction 178 = .ok (.bipush 11, 2) := by decide +kernel
theorem dX9_isInstruction_180 : decode cX9_isInstruction 180 = .ok (.if_icmp .ne 13, 3) := by decide +kernel
theorem dX9_isInstruction_183 : decode cX9_isInstruction 183 = .ok (.iload_n 3, 1) := by decide +kernel
theorem dX9_isInstruction_184 : decode cX9_isInstruction 184 = .ok (.invokestatic 92, 3) := by decide +kernel
theorem dX9_isInstruction_187 : decode cX9_isInstruction 187 = .ok (.ifCond .eq 14, 3) := by decide +kernel
theorem dX9_isInstruction_190 : decode cX9_isInstruction 190 = .ok (.goto 7, 3) := by decide +kernel
theorem dX9_isInstruction_193 : decode cX9_isInstruction 193 = .ok (.iload_n 3, 1) := by decide +kernel
theorem dX9_isInstruction_194 : decode cX9_isInstruction 194 = .ok (.ifCond .ne 7, 3) := by decide +kernel
theorem dX9_isInstruction_197 : decode cX9_isInstruction 197 = .ok (.iconst 1, 1) := by decide +kernel
theorem dX9_isInstruction_198 : decode cX9_isInstruction 198 = .ok (.goto 4, 3) := by decide +kernel
theorem dX9_isInstruction_201 : decode cX9_isInstruction 201 = .ok (.iconst 0, 1) := by decide +kernel
theorem dX9_isInstruction_202 : decode cX9_isInstruction 202 = .ok (.ireturn, 1) := by decide +kernel
abbrev rm_X9_isInstruction : Room := { frames := 2, cells := 0, slots := 0, locals := 42 }
theorem w_X9_isInstruction_197 {X : gX} {σ : sg} {r0 : Int32} (C : gC X cX9_isInstruction 4 RX9 (some .boolean) rm_X9_isInstruction)  (hQ : gQ X (qI (XG X) r0 σ))  (hf : J_X9_isInstruction_197 σ = some r0) : G X 4 σ 197 [] [] := by
  unfold J_X9_isInstruction_197 at hf
  refine g_iconst C (v := 1) dX9_isInstruction_197 rfl ?_
  refine g_goto C 202 dX9_isInstruction_198 (by decide) ?_
  have e0 : r0 = (1 : Int32) := (Option.some.inj hf).symm
  exact g_iret C rfl hQ (by rw [e0]) rfl dX9_isInstruction_202
theorem w_X9_isInstruction_e {X : gX} {σ : sg} {p0 : Int32} {p1 : Int32} {p2 : Int32} {p3 : Int32} {r0 : Int32} (C : gC X cX9_isInstruction 4 RX9 (some .boolean) rm_X9_isInstruction)  (hQ : gQ X (qI (XG X) r0 σ)) (hf : f_X9_isInstruction σ p0 p1 p2 p3 = some r0) : G X 4 σ 0 [(0, .int p0), (1, .int p1), (2, .int p2), (3, .int p3)] [] := by
  unfold f_X9_isInstruction at hf
  refine g_iload_n C 0 dX9_isInstruction_0 rfl ?_
  refine g_iconst C (v := 0) dX9_isInstruction_1 rfl ?_
  refine g_bipush C (v := 12) dX9_isInstruction_2 rfl ?_
  obtain ⟨v4, h1, hf⟩ := g_bind hf
  refine g_callSi C 3 [.int p0, .int (0 : Int32), .int (12 : Int32)] (c_X9_isBetween (Xl X) (gC_I C)  h1) ⟨wml_771, wst_772, win_10, wcd_773⟩ hd_X9_isBetween ⟨rfl, rfl⟩ ⟨Nat.le_of_ble_eq_true rfl, Nat.le_of_ble_eq_true rfl⟩ rfl rfl (Nat.le_of_ble_eq_true rfl) dX9_isInstruction_4 ?_
  clear h1
  refine g_if_ne C 12 hf dX9_isInstruction_7 (by decide) (fun hf => ?_) (fun hf => ?_)
  · refine g_iconst C (v := 0) dX9_isInstruction_10 rfl ?_
    have e0 : r0 = (0 : Int32) := (Option.some.inj hf).symm
    exact g_iret C rfl hQ (by rw [e0]) rfl dX9_isInstruction_11
  · refine g_iload_n C 0 dX9_isInstruction_12 rfl ?_
    refine g_if_ne C 46 hf dX9_isInstruction_13 (by decide) (fun hf => ?_) (fun hf => ?_)
    · refine g_iload_n C 1 dX9_isInstruction_16 rfl ?_
      obtain ⟨v17, h1, hf⟩ := g_bind hf
      refine g_callSi C 1 [.int p1] (c_X9_isRegister (Xl X) (gC_I C)  h1) ⟨wml_774, wst_775, win_10, wcd_776⟩ hd_X9_isRegister ⟨rfl, rfl⟩ ⟨Nat.le_of_ble_eq_true rfl, Nat.le_of_ble_eq_true rfl⟩ rfl rfl (Nat.le_of_ble_eq_true rfl) dX9_isInstruction_17 ?_
      clear h1
      refine g_if_eq C 44 hf dX9_isInstruction_20 (by decide) (fun hf => ?_) (fun hf => ?_)
      · refine g_iconst C (v := 0) dX9_isInstruction_44 rfl ?_
        have e0 : r0 = (0 : Int32) := (Option.some.inj hf).symm
        exact g_iret C rfl hQ (by rw [e0]) rfl dX9_isInstruction_45
      · refine g_iload_n C 2 dX9_isInstruction_23 rfl ?_
        refine g_sipush C (v := (-999)) dX9_isInstruction_24 rfl ?_
        refine g_sipush C (v := 999) dX9_isInstruction_27 rfl ?_
        obtain ⟨v30, h1, hf⟩ := g_bind hf
        refine g_callSi C 3 [.int p2, .int (-999 : Int32), .int (999 : Int32)] (c_X9_isBetween (Xl X) (gC_I C)  h1) ⟨wml_771, wst_772, win_10, wcd_773⟩ hd_X9_isBetween ⟨rfl, rfl⟩ ⟨Nat.le_of_ble_eq_true rfl, Nat.le_of_ble_eq_true rfl⟩ rfl rfl (Nat.le_of_ble_eq_true rfl) dX9_isInstruction_30 ?_
        clear h1
        refine g_if_eq C 44 hf dX9_isInstruction_33 (by decide) (fun hf => ?_) (fun hf => ?_)
        · refine g_iconst C (v := 0) dX9_isInstruction_44 rfl ?_
          have e0 : r0 = (0 : Int32) := (Option.some.inj hf).symm
          exact g_iret C rfl hQ (by rw [e0]) rfl dX9_isInstruction_45
        · refine g_iload_n C 3 dX9_isInstruction_36 rfl ?_
          refine g_if_ne C 44 hf dX9_isInstruction_37 (by decide) (fun hf => ?_) (fun hf => ?_)
          · refine g_iconst C (v := 1) dX9_isInstruction_40 rfl ?_
            refine g_goto C 45 dX9_isInstruction_41 (by decide) ?_
            have e0 : r0 = (1 : Int32) := (Option.some.inj hf).symm
            exact g_iret C rfl hQ (by rw [e0]) rfl dX9_isInstruction_45
          · refine g_iconst C (v := 0) dX9_isInstruction_44 rfl ?_
            have e0 : r0 = (0 : Int32) := (Option.some.inj hf).symm
            exact g_iret C rfl hQ (by rw [e0]) rfl dX9_isInstruction_45
    · refine g_iload_n C 0 dX9_isInstruction_46 rfl ?_
      refine g_bipush C (v := 8) dX9_isInstruction_47 rfl ?_
      refine g_icmp_ge C 79 hf dX9_isInstruction_49 (by decide) (fun hf => ?_) (fun hf => ?_)
      · refine g_iload_n C 0 dX9_isInstruction_79 rfl ?_
        refine g_bipush C (v := 8) dX9_isInstruction_80 rfl ?_
        refine g_icmp_ne C 109 hf dX9_isInstruction_82 (by decide) (fun hf => ?_) (fun hf => ?_)
        · refine g_iload_n C 1 dX9_isInstruction_85 rfl ?_
          obtain ⟨v86, h1, hf⟩ := g_bind hf
          refine g_callSi C 1 [.int p1] (c_X9_isRegister (Xl X) (gC_I C)  h1) ⟨wml_774, wst_775, win_10, wcd_776⟩ hd_X9_isRegister ⟨rfl, rfl⟩ ⟨Nat.le_of_ble_eq_true rfl, Nat.le_of_ble_eq_true rfl⟩ rfl rfl (Nat.le_of_ble_eq_true rfl) dX9_isInstruction_86 ?_
          clear h1
          refine g_if_eq C 107 hf dX9_isInstruction_89 (by decide) (fun hf => ?_) (fun hf => ?_)
          · refine g_iconst C (v := 0) dX9_isInstruction_107 rfl ?_
            have e0 : r0 = (0 : Int32) := (Option.some.inj hf).symm
            exact g_iret C rfl hQ (by rw [e0]) rfl dX9_isInstruction_108
          · refine g_iload_n C 2 dX9_isInstruction_92 rfl ?_
            obtain ⟨v93, h1, hf⟩ := g_bind hf
            refine g_callSi C 1 [.int p2] (c_X9_isRegister (Xl X) (gC_I C)  h1) ⟨wml_774, wst_775, win_10, wcd_776⟩ hd_X9_isRegister ⟨rfl, rfl⟩ ⟨Nat.le_of_ble_eq_true rfl, Nat.le_of_ble_eq_true rfl⟩ rfl rfl (Nat.le_of_ble_eq_true rfl) dX9_isInstruction_93 ?_
            clear h1
            refine g_if_eq C 107 hf dX9_isInstruction_96 (by decide) (fun hf => ?_) (fun hf => ?_)
            · refine g_iconst C (v := 0) dX9_isInstruction_107 rfl ?_
              have e0 : r0 = (0 : Int32) := (Option.some.inj hf).symm
              exact g_iret C rfl hQ (by rw [e0]) rfl dX9_isInstruction_108
            · refine g_iload_n C 3 dX9_isInstruction_99 rfl ?_
              refine g_if_ne C 107 hf dX9_isInstruction_100 (by decide) (fun hf => ?_) (fun hf => ?_)
              · refine g_iconst C (v := 1) dX9_isInstruction_103 rfl ?_
                refine g_goto C 108 dX9_isInstruction_104 (by decide) ?_
                have e0 : r0 = (1 : Int32) := (Option.some.inj hf).symm
                exact g_iret C rfl hQ (by rw [e0]) rfl dX9_isInstruction_108
              · refine g_iconst C (v := 0) dX9_isInstruction_107 rfl ?_
                have e0 : r0 = (0 : Int32) := (Option.some.inj hf).symm
                exact g_iret C rfl hQ (by rw [e0]) rfl dX9_isInstruction_108
        · refine g_iload_n C 0 dX9_isInstruction_109 rfl ?_
          refine g_bipush C (v := 9) dX9_isInstruction_110 rfl ?_
          refine g_icmp_ne C 139 hf dX9_isInstruction_112 (by decide) (fun hf => ?_) (fun hf => ?_)
          · refine g_iload_n C 1 dX9_isInstruction_115 rfl ?_
            refine g_if_ne C 137 hf dX9_isInstruction_116 (by decide) (fun hf => ?_) (fun hf => ?_)
            · refine g_iload_n C 2 dX9_isInstruction_119 rfl ?_
              obtain ⟨v120, h1, hf⟩ := g_bind hf
              refine g_callSi C 1 [.int p2] (c_X9_isRegister (Xl X) (gC_I C)  h1) ⟨wml_774, wst_775, win_10, wcd_776⟩ hd_X9_isRegister ⟨rfl, rfl⟩ ⟨Nat.le_of_ble_eq_true rfl, Nat.le_of_ble_eq_true rfl⟩ rfl rfl (Nat.le_of_ble_eq_true rfl) dX9_isInstruction_120 ?_
              clear h1
              refine g_if_eq C 137 hf dX9_isInstruction_123 (by decide) (fun hf => ?_) (fun hf => ?_)
              · refine g_iconst C (v := 0) dX9_isInstruction_137 rfl ?_
                have e0 : r0 = (0 : Int32) := (Option.some.inj hf).symm
                exact g_iret C rfl hQ (by rw [e0]) rfl dX9_isInstruction_138
              · refine g_iload_n C 3 dX9_isInstruction_126 rfl ?_
                obtain ⟨v127, h1, hf⟩ := g_bind hf
                refine g_callSi C 1 [.int p3] (c_X9_isRegister (Xl X) (gC_I C)  h1) ⟨wml_774, wst_775, win_10, wcd_776⟩ hd_X9_isRegister ⟨rfl, rfl⟩ ⟨Nat.le_of_ble_eq_true rfl, Nat.le_of_ble_eq_true rfl⟩ rfl rfl (Nat.le_of_ble_eq_true rfl) dX9_isInstruction_127 ?_
                clear h1
                refine g_if_eq C 137 hf dX9_isInstruction_130 (by decide) (fun hf => ?_) (fun hf => ?_)
                · refine g_iconst C (v := 0) dX9_isInstruction_137 rfl ?_
                  have e0 : r0 = (0 : Int32) := (Option.some.inj hf).symm
                  exact g_iret C rfl hQ (by rw [e0]) rfl dX9_isInstruction_138
                · refine g_iconst C (v := 1) dX9_isInstruction_133 rfl ?_
                  refine g_goto C 138 dX9_isInstruction_134 (by decide) ?_
                  have e0 : r0 = (1 : Int32) := (Option.some.inj hf).symm
                  exact g_iret C rfl hQ (by rw [e0]) rfl dX9_isInstruction_138
            · refine g_iconst C (v := 0) dX9_isInstruction_137 rfl ?_
              have e0 : r0 = (0 : Int32) := (Option.some.inj hf).symm
              exact g_iret C rfl hQ (by rw [e0]) rfl dX9_isInstruction_138
          · refine g_iload_n C 0 dX9_isInstruction_139 rfl ?_
            refine g_bipush C (v := 12) dX9_isInstruction_140 rfl ?_
            refine g_icmp_ne C 163 hf dX9_isInstruction_142 (by decide) (fun hf => ?_) (fun hf => ?_)
            · refine g_iload_n C 1 dX9_isInstruction_145 rfl ?_
              refine g_if_ne C 161 hf dX9_isInstruction_146 (by decide) (fun hf => ?_) (fun hf => ?_)
              · refine g_iload_n C 2 dX9_isInstruction_149 rfl ?_
                refine g_if_ne C 161 hf dX9_isInstruction_150 (by decide) (fun hf => ?_) (fun hf => ?_)
                · refine g_iload_n C 3 dX9_isInstruction_153 rfl ?_
                  refine g_if_ne C 161 hf dX9_isInstruction_154 (by decide) (fun hf => ?_) (fun hf => ?_)
                  · refine g_iconst C (v := 1) dX9_isInstruction_157 rfl ?_
                    refine g_goto C 162 dX9_isInstruction_158 (by decide) ?_
                    have e0 : r0 = (1 : Int32) := (Option.some.inj hf).symm
                    exact g_iret C rfl hQ (by rw [e0]) rfl dX9_isInstruction_162
                  · refine g_iconst C (v := 0) dX9_isInstruction_161 rfl ?_
                    have e0 : r0 = (0 : Int32) := (Option.some.inj hf).symm
                    exact g_iret C rfl hQ (by rw [e0]) rfl dX9_isInstruction_162
                · refine g_iconst C (v := 0) dX9_isInstruction_161 rfl ?_
                  have e0 : r0 = (0 : Int32) := (Option.some.inj hf).symm
                  exact g_iret C rfl hQ (by rw [e0]) rfl dX9_isInstruction_162
              · refine g_iconst C (v := 0) dX9_isInstruction_161 rfl ?_
                have e0 : r0 = (0 : Int32) := (Option.some.inj hf).symm
                exact g_iret C rfl hQ (by rw [e0]) rfl dX9_isInstruction_162
            · refine g_iload_n C 1 dX9_isInstruction_163 rfl ?_
              refine g_if_ne C 201 hf dX9_isInstruction_164 (by decide) (fun hf => ?_) (fun hf => ?_)
              · refine g_iload_n C 2 dX9_isInstruction_167 rfl ?_
                refine g_iconst C (v := 0) dX9_isInstruction_168 rfl ?_
                refine g_bipush C (v := 39) dX9_isInstruction_169 rfl ?_
                obtain ⟨v171, h1, hf⟩ := g_bind hf
                refine g_callSi C 3 [.int p2, .int (0 : Int32), .int (39 : Int32)] (c_X9_isBetween (Xl X) (gC_I C)  h1) ⟨wml_771, wst_772, win_10, wcd_773⟩ hd_X9_isBetween ⟨rfl, rfl⟩ ⟨Nat.le_of_ble_eq_true rfl, Nat.le_of_ble_eq_true rfl⟩ rfl rfl (Nat.le_of_ble_eq_true rfl) dX9_isInstruction_171 ?_
                clear h1
                refine g_if_eq C 201 hf dX9_isInstruction_174 (by decide) (fun hf => ?_) (fun hf => ?_)
                · refine g_iconst C (v := 0) dX9_isInstruction_201 rfl ?_
                  have e0 : r0 = (0 : Int32) := (Option.some.inj hf).symm
                  exact g_iret C rfl hQ (by rw [e0]) rfl dX9_isInstruction_202
                · refine g_iload_n C 0 dX9_isInstruction_177 rfl ?_
                  refine g_bipush C (v := 11) dX9_isInstruction_178 rfl ?_
                  refine g_icmp_ne C 193 hf dX9_isInstruction_180 (by decide) (fun hf => ?_) (fun hf => ?_)
                  · refine g_iload_n C 3 dX9_isInstruction_183 rfl ?_
                    obtain ⟨v184, h1, hf⟩ := g_bind hf
                    refine g_callSi C 1 [.int p3] (c_X9_isRegister (Xl X) (gC_I C)  h1) ⟨wml_774, wst_775, win_10, wcd_776⟩ hd_X9_isRegister ⟨rfl, rfl⟩ ⟨Nat.le_of_ble_eq_true rfl, Nat.le_of_ble_eq_true rfl⟩ rfl rfl (Nat.le_of_ble_eq_true rfl) dX9_isInstruction_184 ?_
                    clear h1
                    refine g_if_eq C 201 hf dX9_isInstruction_187 (by decide) (fun hf => ?_) (fun hf => ?_)
                    · refine g_iconst C (v := 0) dX9_isInstruction_201 rfl ?_
                      have e0 : r0 = (0 : Int32) := (Option.some.inj hf).symm
                      exact g_iret C rfl hQ (by rw [e0]) rfl dX9_isInstruction_202
                    · refine g_goto C 197 dX9_isInstruction_190 (by decide) ?_
                      refine g_sub [] rfl ?_
                      exact w_X9_isInstruction_197 C  hQ  hf
                  · refine g_iload_n C 3 dX9_isInstruction_193 rfl ?_
                    refine g_if_ne C 201 hf dX9_isInstruction_194 (by decide) (fun hf => ?_) (fun hf => ?_)
                    · refine g_sub [] rfl ?_
                      exact w_X9_isInstruction_197 C  hQ  hf
                    · refine g_iconst C (v := 0) dX9_isInstruction_201 rfl ?_
                      have e0 : r0 = (0 : Int32) := (Option.some.inj hf).symm
                      exact g_iret C rfl hQ (by rw [e0]) rfl dX9_isInstruction_202
              · refine g_iconst C (v := 0) dX9_isInstruction_201 rfl ?_
                have e0 : r0 = (0 : Int32) := (Option.some.inj hf).symm
                exact g_iret C rfl hQ (by rw [e0]) rfl dX9_isInstruction_202
      · refine g_iload_n C 1 dX9_isInstruction_52 rfl ?_
        obtain ⟨v53, h1, hf⟩ := g_bind hf
        refine g_callSi C 1 [.int p1] (c_X9_isRegister (Xl X) (gC_I C)  h1) ⟨wml_774, wst_775, win_10, wcd_776⟩ hd_X9_isRegister ⟨rfl, rfl⟩ ⟨Nat.le_of_ble_eq_true rfl, Nat.le_of_ble_eq_true rfl⟩ rfl rfl (Nat.le_of_ble_eq_true rfl) dX9_isInstruction_53 ?_
        clear h1
        refine g_if_eq C 77 hf dX9_isInstruction_56 (by decide) (fun hf => ?_) (fun hf => ?_)
        · refine g_iconst C (v := 0) dX9_isInstruction_77 rfl ?_
          have e0 : r0 = (0 : Int32) := (Option.some.inj hf).symm
          exact g_iret C rfl hQ (by rw [e0]) rfl dX9_isInstruction_78
        · refine g_iload_n C 2 dX9_isInstruction_59 rfl ?_
          obtain ⟨v60, h1, hf⟩ := g_bind hf
          refine g_callSi C 1 [.int p2] (c_X9_isRegister (Xl X) (gC_I C)  h1) ⟨wml_774, wst_775, win_10, wcd_776⟩ hd_X9_isRegister ⟨rfl, rfl⟩ ⟨Nat.le_of_ble_eq_true rfl, Nat.le_of_ble_eq_true rfl⟩ rfl rfl (Nat.le_of_ble_eq_true rfl) dX9_isInstruction_60 ?_
          clear h1
          refine g_if_eq C 77 hf dX9_isInstruction_63 (by decide) (fun hf => ?_) (fun hf => ?_)
          · refine g_iconst C (v := 0) dX9_isInstruction_77 rfl ?_
            have e0 : r0 = (0 : Int32) := (Option.some.inj hf).symm
            exact g_iret C rfl hQ (by rw [e0]) rfl dX9_isInstruction_78
          · refine g_iload_n C 3 dX9_isInstruction_66 rfl ?_
            obtain ⟨v67, h1, hf⟩ := g_bind hf
            refine g_callSi C 1 [.int p3] (c_X9_isRegister (Xl X) (gC_I C)  h1) ⟨wml_774, wst_775, win_10, wcd_776⟩ hd_X9_isRegister ⟨rfl, rfl⟩ ⟨Nat.le_of_ble_eq_true rfl, Nat.le_of_ble_eq_true rfl⟩ rfl rfl (Nat.le_of_ble_eq_true rfl) dX9_isInstruction_67 ?_
            clear h1
            refine g_if_eq C 77 hf dX9_isInstruction_70 (by decide) (fun hf => ?_) (fun hf => ?_)
            · refine g_iconst C (v := 0) dX9_isInstruction_77 rfl ?_
              have e0 : r0 = (0 : Int32) := (Option.some.inj hf).symm
              exact g_iret C rfl hQ (by rw [e0]) rfl dX9_isInstruction_78
            · refine g_iconst C (v := 1) dX9_isInstruction_73 rfl ?_
              refine g_goto C 78 dX9_isInstruction_74 (by decide) ?_
              have e0 : r0 = (1 : Int32) := (Option.some.inj hf).symm
              exact g_iret C rfl hQ (by rw [e0]) rfl dX9_isInstruction_78
theorem c_X9_isInstruction (l : Launch) {Gw : gW} (hI : g_I Gw) {σ : sg} {p0 : Int32} {p1 : Int32} {p2 : Int32} {p3 : Int32} {r : Int32}  (hf : f_X9_isInstruction σ p0 p1 p2 p3 = some r) : gM l Gw yX9_isInstruction cX9_isInstruction 4 (some .boolean) rm_X9_isInstruction [.int p0, .int p1, .int p2, .int p3] σ (qI (Gw) r σ) := by
  refine g_met hI (by decide) (Nat.le_of_ble_eq_true rfl) (fun X h1 h2 C hQ => ?_)
  subst h1; subst h2
  exact w_X9_isInstruction_e C  hQ hf
theorem dX9_put_0 : decode cX9_put 0 = .ok (.aload_n 0, 1) := by decide +kernel
theorem dX9_put_1 : decode cX9_put 1 = .ok (.getfield 11, 3) := by decide +kernel
theorem dX9_put_4 : decode cX9_put 4 = .ok (.iload_n 1, 1) := by decide +kernel
theorem dX9_put_5 : decode cX9_put 5 = .ok (.aaload, 1) := by decide +kernel
theorem dX9_put_6 : decode cX9_put 6 = .ok (.iconst 0, 1) := by decide +kernel
theorem dX9_put_7 : decode cX9_put 7 = .ok (.iload_n 2, 1) := by decide +kernel
theorem dX9_put_8 : decode cX9_put 8 = .ok (.iastore, 1) := by decide +kernel
theorem dX9_put_9 : decode cX9_put 9 = .ok (.aload_n 0, 1) := by decide +kernel
theorem dX9_put_10 : decode cX9_put 10 = .ok (.getfield 11, 3) := by decide +kernel
theorem dX9_put_13 : decode cX9_put 13 = .ok (.iload_n 1, 1) := by decide +kernel
theorem dX9_put_14 : decode cX9_put 14 = .ok (.aaload, 1) := by decide +kernel
theorem dX9_put_15 : decode cX9_put 15 = .ok (.iconst 1, 1) := by decide +kernel
theorem dX9_put_16 : decode cX9_put 16 = .ok (.iload_n 3, 1) := by decide +kernel
theorem dX9_put_17 : decode cX9_put 17 = .ok (.iastore, 1) := by decide +kernel
theorem dX9_put_18 : decode cX9_put 18 = .ok (.aload_n 0, 1) := by decide +kernel
theorem dX9_put_19 : decode cX9_put 19 = .ok (.getfield 11, 3) := by decide +kernel
theorem dX9_put_22 : decode cX9_put 22 = .ok (.iload_n 1, 1) := by decide +kernel
theorem dX9_put_23 : decode cX9_put 23 = .ok (.aaload, 1) := by decide +kernel
theorem dX9_put_24 : decode cX9_put 24 = .ok (.iconst 2, 1) := by decide +kernel
theorem dX9_put_25 : decode cX9_put 25 = .ok (.iload 4, 2) := by decide +kernel
theorem dX9_put_27 : decode cX9_put 27 = .ok (.iastore, 1) := by decide +kernel
theorem dX9_put_28 : decode cX9_put 28 = .ok (.aload_n 0, 1) := by decide +kernel
theorem dX9_put_29 : decode cX9_put 29 = .ok (.getfield 11, 3) := by decide +kernel
theorem dX9_put_32 : decode cX9_put 32 = .ok (.iload_n 1, 1) := by decide +kernel
theorem dX9_put_33 : decode cX9_put 33 = .ok (.aaload, 1) := by decide +kernel
theorem dX9_put_34 : decode cX9_put 34 = .ok (.iconst 3, 1) := by decide +kernel
theorem dX9_put_35 : decode cX9_put 35 = .ok (.iload 5, 2) := by decide +kernel
theorem dX9_put_37 : decode cX9_put 37 = .ok (.iastore, 1) := by decide +kernel
theorem dX9_put_38 : decode cX9_put 38 = .ok (.return_, 1) := by decide +kernel
abbrev rm_X9_put : Room := { frames := 0, cells := 0, slots := 0, locals := 0 }
theorem w_X9_put_e {X : gX} {σ : sg} {p1 : Int32} {p2 : Int32} {p3 : Int32} {p4 : Int32} {p5 : Int32} {r0 : sg} (C : gC X cX9_put 6 RX9 none rm_X9_put)  (hQ : gQ X (qV (XG X) r0)) (hf : f_X9_put σ p1 p2 p3 p4 p5 = some r0) : G X 6 σ 0 [(0, .ref (Xd X 157)), (1, .int p1), (2, .int p2), (3, .int p3), (4, .int p4), (5, .int p5)] [] := by
  unfold f_X9_put at hf
  refine g_aload_n C 0 dX9_put_0 rfl ?_
  refine g_getr C 9 1 (158) (by decide) sh_157 rfl vc_9 (by decide) inXX9 wfl_662 dX9_put_1 ?_
  refine g_iload_n C 1 dX9_put_4 rfl ?_
  obtain ⟨q5, h1, hf⟩ := g_bind hf
  refine g_aald C h1 dX9_put_5 ?_
  clear h1
  refine g_iconst C (v := 0) dX9_put_6 rfl ?_
  refine g_iload_n C 2 dX9_put_7 rfl ?_
  obtain ⟨s8, h1, hf⟩ := g_bind hf
  refine g_iast C h1 dX9_put_8 ?_
  clear h1
  refine g_aload_n C 0 dX9_put_9 rfl ?_
  refine g_getr C 9 1 (158) (by decide) sh_157 rfl vc_9 (by decide) inXX9 wfl_662 dX9_put_10 ?_
  refine g_iload_n C 1 dX9_put_13 rfl ?_
  obtain ⟨q14, h1, hf⟩ := g_bind hf
  refine g_aald C h1 dX9_put_14 ?_
  clear h1
  refine g_iconst C (v := 1) dX9_put_15 rfl ?_
  refine g_iload_n C 3 dX9_put_16 rfl ?_
  obtain ⟨s17, h1, hf⟩ := g_bind hf
  refine g_iast C h1 dX9_put_17 ?_
  clear h1
  refine g_aload_n C 0 dX9_put_18 rfl ?_
  refine g_getr C 9 1 (158) (by decide) sh_157 rfl vc_9 (by decide) inXX9 wfl_662 dX9_put_19 ?_
  refine g_iload_n C 1 dX9_put_22 rfl ?_
  obtain ⟨q23, h1, hf⟩ := g_bind hf
  refine g_aald C h1 dX9_put_23 ?_
  clear h1
  refine g_iconst C (v := 2) dX9_put_24 rfl ?_
  refine g_iload C 4 dX9_put_25 rfl ?_
  obtain ⟨s27, h1, hf⟩ := g_bind hf
  refine g_iast C h1 dX9_put_27 ?_
  clear h1
  refine g_aload_n C 0 dX9_put_28 rfl ?_
  refine g_getr C 9 1 (158) (by decide) sh_157 rfl vc_9 (by decide) inXX9 wfl_662 dX9_put_29 ?_
  refine g_iload_n C 1 dX9_put_32 rfl ?_
  obtain ⟨q33, h1, hf⟩ := g_bind hf
  refine g_aald C h1 dX9_put_33 ?_
  clear h1
  refine g_iconst C (v := 3) dX9_put_34 rfl ?_
  refine g_iload C 5 dX9_put_35 rfl ?_
  obtain ⟨s37, h1, hf⟩ := g_bind hf
  refine g_iast C h1 dX9_put_37 ?_
  clear h1
  have e0 : r0 = s37 := (Option.some.inj hf).symm
  exact g_vret C rfl hQ (by rw [e0]) dX9_put_38
theorem c_X9_put (l : Launch) {Gw : gW} (hI : g_I Gw) {σ : sg} {p1 : Int32} {p2 : Int32} {p3 : Int32} {p4 : Int32} {p5 : Int32} {r : sg}  (hf : f_X9_put σ p1 p2 p3 p4 p5 = some r) : gM l Gw yX9_put cX9_put 6 none rm_X9_put [.ref (Gw.2.2 157), .int p1, .int p2, .int p3, .int p4, .int p5] σ (qV (Gw) r) := by
  refine g_met hI (by decide) (Nat.le_of_ble_eq_true rfl) (fun X h1 h2 C hQ => ?_)
  subst h1; subst h2
  exact w_X9_put_e C  hQ hf
theorem dX9_add_0 : decode cX9_add 0 = .ok (.iload_n 1, 1) := by decide +kernel
theorem dX9_add_1 : decode cX9_add 1 = .ok (.iload_n 2, 1) := by decide +kernel
theorem dX9_add_2 : decode cX9_add 2 = .ok (.iload_n 3, 1) := by decide +kernel
theorem dX9_add_3 : decode cX9_add 3 = .ok (.iload 4, 2) := by decide +kernel
theorem dX9_add_5 : decode cX9_add 5 = .ok (.invokestatic 96, 3) := by decide +kernel
theorem dX9_add_8 : decode cX9_add 8 = .ok (.ifCond .ne 6, 3) := by decide +kernel
theorem dX9_add_11 : decode cX9_add 11 = .ok (.bipush (-2), 2) := by decide +kernel
theorem dX9_add_13 : decode cX9_add 13 = .ok (.ireturn, 1) := by decide +kernel
theorem dX9_add_14 : decode cX9_add 14 = .ok (.aload_n 0, 1) := by decide +kernel
theorem dX9_add_15 : decode cX9_add 15 = .ok (.getfield 100, 3) := by decide +kernel
theorem dX9_add_18 : decode cX9_add 18 = .ok (.ifCond .eq 6, 3) := by decide +kernel
theorem dX9_add_21 : decode cX9_add 21 = .ok (.bipush (-5), 2) := by decide +kernel
theorem dX9_add_23 : decode cX9_add 23 = .ok (.ireturn, 1) := by decide +kernel
theorem dX9_add_24 : decode cX9_add 24 = .ok (.aload_n 0, 1) := by decide +kernel
theorem dX9_add_25 : decode cX9_add 25 = .ok (.getfield 89, 3) := by decide +kernel
theorem dX9_add_28 : decode cX9_add 28 = .ok (.bipush 40, 2) := by decide +kernel
theorem dX9_add_30 : decode cX9_add 30 = .ok (.if_icmp .ne 6, 3) := by decide +kernel
theorem dX9_add_33 : decode cX9_add 33 = .ok (.bipush (-3), 2) := by decide +kernel
theorem dX9_add_35 : decode cX9_add 35 = .ok (.ireturn, 1) := by decide +kernel
theorem dX9_add_36 : decode cX9_add 36 = .ok (.aload_n 0, 1) := by decide +kernel
theorem dX9_add_37 : decode cX9_add 37 = .ok (.invokevirtual 104, 3) := by decide +kernel
theorem dX9_add_40 : decode cX9_add 40 = .ok (.aload_n 0, 1) := by decide +kernel
theorem dX9_add_41 : decode cX9_add 41 = .ok (.aload_n 0, 1) := by decide +kernel
theorem dX9_add_42 : decode cX9_add 42 = .ok (.getfield 89, 3) := by decide +kernel
theorem dX9_add_45 : decode cX9_add 45 = .ok (.iload_n 1, 1) := by decide +kernel
theorem dX9_add_46 : decode cX9_add 46 = .ok (.iload_n 2, 1) := by decide +kernel
theorem dX9_add_47 : decode cX9_add 47 = .ok (.iload_n 3, 1) := by decide +kernel
theorem dX9_add_48 : decode cX9_add 48 = .ok (.iload 4, 2) := by decide +kernel
theorem dX9_add_50 : decode cX9_add 50 = .ok (.invokevirtual 107, 3) := by decide +kernel
theorem dX9_add_53 : decode cX9_add 53 = .ok (.aload_n 0, 1) := by decide +kernel
theorem dX9_add_54 : decode cX9_add 54 = .ok (.dup, 1) := by decide +kernel
theorem dX9_add_55 : decode cX9_add 55 = .ok (.getfield 89, 3) := by decide +kernel
theorem dX9_add_58 : decode cX9_add 58 = .ok (.iconst 1, 1) := by decide +kernel
theorem dX9_add_59 : decode cX9_add 59 = .ok (.iadd, 1) := by decide +kernel
theorem dX9_add_60 : decode cX9_add 60 = .ok (.putfield 89, 3) := by decide +kernel
theorem dX9_add_63 : decode cX9_add 63 = .ok (.aload_n 0, 1) := by decide +kernel
theorem dX9_add_64 : decode cX9_add 64 = .ok (.getfield 89, 3) := by decide +kernel
theorem dX9_add_67 : decode cX9_add 67 = .ok (.iconst 1, 1) := by decide +kernel
theorem dX9_add_68 : decode cX9_add 68 = .ok (.isub, 1) := by decide +kernel
theorem dX9_add_69 : decode cX9_add 69 = .ok (.ireturn, 1) := by decide +kernel
abbrev rm_X9_add : Room := { frames := 3, cells := 0, slots := 0, locals := 65 }
theorem w_X9_add_e {X : gX} {σ : sg} {p1 : Int32} {p2 : Int32} {p3 : Int32} {p4 : Int32} {r0 : (Int32 × sg)} (C : gC X cX9_add 5 RX9 (some .int) rm_X9_add)  (hQ : gQ X (qI (XG X) r0.1 r0.2)) (hf : f_X9_add σ p1 p2 p3 p4 = some r0) : G X 5 σ 0 [(0, .ref (Xd X 157)), (1, .int p1), (2, .int p2), (3, .int p3), (4, .int p4)] [] := by
  unfold f_X9_add at hf
  refine g_iload_n C 1 dX9_add_0 rfl ?_
  refine g_iload_n C 2 dX9_add_1 rfl ?_
  refine g_iload_n C 3 dX9_add_2 rfl ?_
  refine g_iload C 4 dX9_add_3 rfl ?_
  obtain ⟨v5, h1, hf⟩ := g_bind hf
  refine g_callSi C 4 [.int p1, .int p2, .int p3, .int p4] (c_X9_isInstruction (Xl X) (gC_I C)  h1) ⟨wml_768, wst_769, win_10, wcd_770⟩ hd_X9_isInstruction ⟨rfl, rfl⟩ ⟨Nat.le_of_ble_eq_true rfl, Nat.le_of_ble_eq_true rfl⟩ rfl rfl (Nat.le_of_ble_eq_true rfl) dX9_add_5 ?_
  clear h1
  refine g_if_ne C 14 hf dX9_add_8 (by decide) (fun hf => ?_) (fun hf => ?_)
  · refine g_bipush C (v := (-2)) dX9_add_11 rfl ?_
    have e0 : r0 = ((-2 : Int32), σ) := (Option.some.inj hf).symm
    exact g_iret C rfl hQ (by rw [e0]) rfl dX9_add_13
  · refine g_aload_n C 0 dX9_add_14 rfl ?_
    refine g_geti C 9 16 (by decide) sh_157 rfl vc_9 (by decide) inXX9 wfl_677 dX9_add_15 ?_
    refine g_if_eq C 24 hf dX9_add_18 (by decide) (fun hf => ?_) (fun hf => ?_)
    · refine g_aload_n C 0 dX9_add_24 rfl ?_
      refine g_geti C 9 0 (by decide) sh_157 rfl vc_9 (by decide) inXX9 wfl_661 dX9_add_25 ?_
      refine g_bipush C (v := 40) dX9_add_28 rfl ?_
      refine g_icmp_ne C 36 hf dX9_add_30 (by decide) (fun hf => ?_) (fun hf => ?_)
      · refine g_bipush C (v := (-3)) dX9_add_33 rfl ?_
        have e0 : r0 = ((-3 : Int32), σ) := (Option.some.inj hf).symm
        exact g_iret C rfl hQ (by rw [e0]) rfl dX9_add_35
      · refine g_aload_n C 0 dX9_add_36 rfl ?_
        obtain ⟨s37, h1, hf⟩ := g_bind hf
        refine g_callVv C 0 [] (c_X9_remember (Xl X) (gC_I C)  h1) ⟨wml_777, wim_779, wsp_12, win_10, wcd_780⟩ (by decide) sh_157 vc_9 rfl hd_X9_remember ⟨rfl, rfl⟩ ⟨Nat.le_of_ble_eq_true rfl, Nat.le_of_ble_eq_true rfl⟩ rfl rfl (Nat.le_of_ble_eq_true rfl) dX9_add_37 ?_
        clear h1
        refine g_aload_n C 0 dX9_add_40 rfl ?_
        refine g_aload_n C 0 dX9_add_41 rfl ?_
        refine g_geti C 9 0 (by decide) sh_157 rfl vc_9 (by decide) inXX9 wfl_661 dX9_add_42 ?_
        refine g_iload_n C 1 dX9_add_45 rfl ?_
        refine g_iload_n C 2 dX9_add_46 rfl ?_
        refine g_iload_n C 3 dX9_add_47 rfl ?_
        refine g_iload C 4 dX9_add_48 rfl ?_
        obtain ⟨s50, h1, hf⟩ := g_bind hf
        refine g_callVv C 5 [.int (s37 157 0), .int p1, .int p2, .int p3, .int p4] (c_X9_put (Xl X) (gC_I C)  h1) ⟨wml_784, wim_786, wsp_13, win_10, wcd_787⟩ (by decide) sh_157 vc_9 rfl hd_X9_put ⟨rfl, rfl⟩ ⟨Nat.le_of_ble_eq_true rfl, Nat.le_of_ble_eq_true rfl⟩ rfl rfl (Nat.le_of_ble_eq_true rfl) dX9_add_50 ?_
        clear h1
        refine g_aload_n C 0 dX9_add_53 rfl ?_
        refine g_dup C dX9_add_54 rfl ?_
        refine g_geti C 9 0 (by decide) sh_157 rfl vc_9 (by decide) inXX9 wfl_661 dX9_add_55 ?_
        refine g_iconst C (v := 1) dX9_add_58 rfl ?_
        refine g_iadd C dX9_add_59 ?_
        obtain ⟨s60, h1, hf⟩ := g_bind hf
        refine g_put C 9 0 (by decide) sh_157 rfl (by decide) vc_9 (by decide) tyX9 tyX9_ok nmX9 inXX9 wfl_661 rfl (ty := .int) (by decide +kernel) rfl rfl dX9_add_60 ?_
        rw [Option.some.inj h1]
        clear h1
        refine g_aload_n C 0 dX9_add_63 rfl ?_
        refine g_geti C 9 0 (by decide) sh_157 rfl vc_9 (by decide) inXX9 wfl_661 dX9_add_64 ?_
        refine g_iconst C (v := 1) dX9_add_67 rfl ?_
        refine g_isub C dX9_add_68 ?_
        have e0 : r0 = ((s60 157 0) - (1 : Int32), s60) := (Option.some.inj hf).symm
        exact g_iret C rfl hQ (by rw [e0]) rfl dX9_add_69
    · refine g_bipush C (v := (-5)) dX9_add_21 rfl ?_
      have e0 : r0 = ((-5 : Int32), σ) := (Option.some.inj hf).symm
      exact g_iret C rfl hQ (by rw [e0]) rfl dX9_add_23
theorem c_X9_add (l : Launch) {Gw : gW} (hI : g_I Gw) {σ : sg} {p1 : Int32} {p2 : Int32} {p3 : Int32} {p4 : Int32} {r : (Int32 × sg)}  (hf : f_X9_add σ p1 p2 p3 p4 = some r) : gM l Gw yX9_add cX9_add 5 (some .int) rm_X9_add [.ref (Gw.2.2 157), .int p1, .int p2, .int p3, .int p4] σ (qI (Gw) r.1 r.2) := by
  refine g_met hI (by decide) (Nat.le_of_ble_eq_true rfl) (fun X h1 h2 C hQ => ?_)
  subst h1; subst h2
  exact w_X9_add_e C  hQ hf
theorem dX9_isThere_0 : decode cX9_isThere 0 = .ok (.iload_n 1, 1) := by decide +kernel
theorem dX9_isThere_1 : decode cX9_isThere 1 = .ok (.iconst 0, 1) := by decide +kernel
theorem dX9_isThere_2 : decode cX9_isThere 2 = .ok (.aload_n 0, 1) := by decide +kernel
theorem dX9_isThere_3 : decode cX9_isThere 3 = .ok (.getfield 89, 3) := by decide +kernel
theorem dX9_isThere_6 : decode cX9_isThere 6 = .ok (.iconst 1, 1) := by decide +kernel
theorem dX9_isThere_7 : decode cX9_isThere 7 = .ok (.isub, 1) := by decide +kernel
theorem dX9_isThere_8 : decode cX9_isThere 8 = .ok (.invokestatic 77, 3) := by decide +kernel
theorem dX9_isThere_11 : decode cX9_isThere 11 = .ok (.ireturn, 1) := by decide +kernel
abbrev rm_X9_isThere : Room := { frames := 1, cells := 0, slots := 0, locals := 22 }
theorem w_X9_isThere_e {X : gX} {σ : sg} {p1 : Int32} {r0 : Int32} (C : gC X cX9_isThere 2 RX9 (some .boolean) rm_X9_isThere)  (hQ : gQ X (qI (XG X) r0 σ)) (hf : f_X9_isThere σ p1 = some r0) : G X 2 σ 0 [(0, .ref (Xd X 157)), (1, .int p1)] [] := by
  unfold f_X9_isThere at hf
  refine g_iload_n C 1 dX9_isThere_0 rfl ?_
  refine g_iconst C (v := 0) dX9_isThere_1 rfl ?_
  refine g_aload_n C 0 dX9_isThere_2 rfl ?_
  refine g_geti C 9 0 (by decide) sh_157 rfl vc_9 (by decide) inXX9 wfl_661 dX9_isThere_3 ?_
  refine g_iconst C (v := 1) dX9_isThere_6 rfl ?_
  refine g_isub C dX9_isThere_7 ?_
  obtain ⟨v8, h1, hf⟩ := g_bind hf
  refine g_callSi C 3 [.int p1, .int (0 : Int32), .int ((σ 157 0) - (1 : Int32))] (c_X9_isBetween (Xl X) (gC_I C)  h1) ⟨wml_771, wst_772, win_10, wcd_773⟩ hd_X9_isBetween ⟨rfl, rfl⟩ ⟨Nat.le_of_ble_eq_true rfl, Nat.le_of_ble_eq_true rfl⟩ rfl rfl (Nat.le_of_ble_eq_true rfl) dX9_isThere_8 ?_
  clear h1
  refine g_if hf (fun hf hz => ?_) (fun hf _ => by cases hf)
  have e0 : r0 = v8 := (Option.some.inj hf).symm
  exact g_iret C rfl hQ (by rw [e0]) (g_nz hz) dX9_isThere_11
theorem c_X9_isThere (l : Launch) {Gw : gW} (hI : g_I Gw) {σ : sg} {p1 : Int32} {r : Int32}  (hf : f_X9_isThere σ p1 = some r) : gM l Gw yX9_isThere cX9_isThere 2 (some .boolean) rm_X9_isThere [.ref (Gw.2.2 157), .int p1] σ (qI (Gw) r σ) := by
  refine g_met hI (by decide) (Nat.le_of_ble_eq_true rfl) (fun X h1 h2 C hQ => ?_)
  subst h1; subst h2
  exact w_X9_isThere_e C  hQ hf
theorem dX9_set_0 : decode cX9_set 0 = .ok (.aload_n 0, 1) := by decide +kernel
theorem dX9_set_1 : decode cX9_set 1 = .ok (.iload_n 1, 1) := by decide +kernel
theorem dX9_set_2 : decode cX9_set 2 = .ok (.invokevirtual 111, 3) := by decide +kernel
theorem dX9_set_5 : decode cX9_set 5 = .ok (.ifCond .ne 5, 3) := by decide +kernel
theorem dX9_set_8 : decode cX9_set 8 = .ok (.iconst (-1), 1) := by decide +kernel
theorem dX9_set_9 : decode cX9_set 9 = .ok (.ireturn, 1) := by decide +kernel
theorem dX9_set_10 : decode cX9_set 10 = .ok (.iload_n 2, 1) := by decide +kernel
theorem dX9_set_11 : decode cX9_set 11 = .ok (.iload_n 3, 1) := by decide +kernel
theorem dX9_set_12 : decode cX9_set 12 = .ok (.iload 4, 2) := by decide +kernel
theorem dX9_set_14 : decode cX9_set 14 = .ok (.iload 5, 2) := by decide +kernel
theorem dX9_set_16 : decode cX9_set 16 = .ok (.invokestatic 96, 3) := by decide +kernel
theorem dX9_set_19 : decode cX9_set 19 = .ok (.ifCond .ne 6, 3) := by decide +kernel
theorem dX9_set_22 : decode cX9_set 22 = .ok (.bipush (-2), 2) := by decide +kernel
theorem dX9_set_24 : decode cX9_set 24 = .ok (.ireturn, 1) := by decide +kernel
theorem dX9_set_25 : decode cX9_set 25 = .ok (.aload_n 0, 1) := by decide +kernel
theorem dX9_set_26 : decode cX9_set 26 = .ok (.getfield 100, 3) := by decide +kernel
theorem dX9_set_29 : decode cX9_set 29 = .ok (.ifCond .eq 6, 3) := by decide +kernel
theorem dX9_set_32 : decode cX9_set 32 = .ok (.bipush (-5), 2) := by decide +kernel
theorem dX9_set_34 : decode cX9_set 34 = .ok (.ireturn, 1) := by decide +kernel
theorem dX9_set_35 : decode cX9_set 35 = .ok (.aload_n 0, 1) := by decide +kernel
theorem dX9_set_36 : decode cX9_set 36 = .ok (.invokevirtual 104, 3) := by decide +kernel
theorem dX9_set_39 : decode cX9_set 39 = .ok (.aload_n 0, 1) := by decide +kernel
theorem dX9_set_40 : decode cX9_set 40 = .ok (.getfield 11, 3) := by decide +kernel
theorem dX9_set_43 : decode cX9_set 43 = .ok (.iload_n 1, 1) := by decide +kernel
theorem dX9_set_44 : decode cX9_set 44 = .ok (.aaload, 1) := by decide +kernel
theorem dX9_set_45 : decode cX9_set 45 = .ok (.iconst 0, 1) := by decide +kernel
theorem dX9_set_46 : decode cX9_set 46 = .ok (.iaload, 1) := by decide +kernel
theorem dX9_set_47 : decode cX9_set 47 = .ok (.istore 6, 2) := by decide +kernel
theorem dX9_set_49 : decode cX9_set 49 = .ok (.aload_n 0, 1) := by decide +kernel
theorem dX9_set_50 : decode cX9_set 50 = .ok (.iload_n 1, 1) := by decide +kernel
theorem dX9_set_51 : decode cX9_set 51 = .ok (.iload_n 2, 1) := by decide +kernel
theorem dX9_set_52 : decode cX9_set 52 = .ok (.iload_n 3, 1) := by decide +kernel
theorem dX9_set_53 : decode cX9_set 53 = .ok (.iload 4, 2) := by decide +kernel
theorem dX9_set_55 : decode cX9_set 55 = .ok (.iload 5, 2) := by decide +kernel
theorem dX9_set_57 : decode cX9_set 57 = .ok (.invokevirtual 107, 3) := by decide +kernel
theorem dX9_set_60 : decode cX9_set 60 = .ok (.iload 6, 2) := by decide +kernel
theorem dX9_set_62 : decode cX9_set 62 = .ok (.ireturn, 1) := by decide +kernel
abbrev rm_X9_set : Room := { frames := 3, cells := 0, slots := 0, locals := 65 }
theorem w_X9_set_e {X : gX} {σ : sg} {p1 : Int32} {p2 : Int32} {p3 : Int32} {p4 : Int32} {p5 : Int32} {r0 : (Int32 × sg)} (C : gC X cX9_set 7 RX9 (some .int) rm_X9_set)  (hQ : gQ X (qI (XG X) r0.1 r0.2)) (hf : f_X9_set σ p1 p2 p3 p4 p5 = some r0) : G X 7 σ 0 [(0, .ref (Xd X 157)), (1, .int p1), (2, .int p2), (3, .int p3), (4, .int p4), (5, .int p5)] [] := by
  unfold f_X9_set at hf
  refine g_aload_n C 0 dX9_set_0 rfl ?_
  refine g_iload_n C 1 dX9_set_1 rfl ?_
  obtain ⟨v2, h1, hf⟩ := g_bind hf
  refine g_callVi C 1 [.int p1] (c_X9_isThere (Xl X) (gC_I C)  h1) ⟨wml_792, wim_794, wsp_14, win_10, wcd_795⟩ (by decide) sh_157 vc_9 rfl hd_X9_isThere ⟨rfl, rfl⟩ ⟨Nat.le_of_ble_eq_true rfl, Nat.le_of_ble_eq_true rfl⟩ rfl rfl (Nat.le_of_ble_eq_true rfl) dX9_set_2 ?_
  clear h1
  refine g_if_ne C 10 hf dX9_set_5 (by decide) (fun hf => ?_) (fun hf => ?_)
  · refine g_iconst C (v := (-1)) dX9_set_8 rfl ?_
    have e0 : r0 = ((-1 : Int32), σ) := (Option.some.inj hf).symm
    exact g_iret C rfl hQ (by rw [e0]) rfl dX9_set_9
  · refine g_iload_n C 2 dX9_set_10 rfl ?_
    refine g_iload_n C 3 dX9_set_11 rfl ?_
    refine g_iload C 4 dX9_set_12 rfl ?_
    refine g_iload C 5 dX9_set_14 rfl ?_
    obtain ⟨v16, h1, hf⟩ := g_bind hf
    refine g_callSi C 4 [.int p2, .int p3, .int p4, .int p5] (c_X9_isInstruction (Xl X) (gC_I C)  h1) ⟨wml_768, wst_769, win_10, wcd_770⟩ hd_X9_isInstruction ⟨rfl, rfl⟩ ⟨Nat.le_of_ble_eq_true rfl, Nat.le_of_ble_eq_true rfl⟩ rfl rfl (Nat.le_of_ble_eq_true rfl) dX9_set_16 ?_
    clear h1
    refine g_if_ne C 25 hf dX9_set_19 (by decide) (fun hf => ?_) (fun hf => ?_)
    · refine g_bipush C (v := (-2)) dX9_set_22 rfl ?_
      have e0 : r0 = ((-2 : Int32), σ) := (Option.some.inj hf).symm
      exact g_iret C rfl hQ (by rw [e0]) rfl dX9_set_24
    · refine g_aload_n C 0 dX9_set_25 rfl ?_
      refine g_geti C 9 16 (by decide) sh_157 rfl vc_9 (by decide) inXX9 wfl_677 dX9_set_26 ?_
      refine g_if_eq C 35 hf dX9_set_29 (by decide) (fun hf => ?_) (fun hf => ?_)
      · refine g_aload_n C 0 dX9_set_35 rfl ?_
        obtain ⟨s36, h1, hf⟩ := g_bind hf
        refine g_callVv C 0 [] (c_X9_remember (Xl X) (gC_I C)  h1) ⟨wml_777, wim_779, wsp_12, win_10, wcd_780⟩ (by decide) sh_157 vc_9 rfl hd_X9_remember ⟨rfl, rfl⟩ ⟨Nat.le_of_ble_eq_true rfl, Nat.le_of_ble_eq_true rfl⟩ rfl rfl (Nat.le_of_ble_eq_true rfl) dX9_set_36 ?_
        clear h1
        refine g_aload_n C 0 dX9_set_39 rfl ?_
        refine g_getr C 9 1 (158) (by decide) sh_157 rfl vc_9 (by decide) inXX9 wfl_662 dX9_set_40 ?_
        refine g_iload_n C 1 dX9_set_43 rfl ?_
        obtain ⟨q44, h1, hf⟩ := g_bind hf
        refine g_aald C h1 dX9_set_44 ?_
        clear h1
        refine g_iconst C (v := 0) dX9_set_45 rfl ?_
        obtain ⟨v46, h1, hf⟩ := g_bind hf
        refine g_iald C h1 dX9_set_46 ?_
        clear h1
        refine g_istore C (lv' := [(6, .int v46), (0, .ref (Xd X 157)), (1, .int p1), (2, .int p2), (3, .int p3), (4, .int p4), (5, .int p5)]) dX9_set_47 (by decide) rfl ?_
        refine g_aload_n C 1 dX9_set_49 rfl ?_
        refine g_iload_n C 2 dX9_set_50 rfl ?_
        refine g_iload_n C 3 dX9_set_51 rfl ?_
        refine g_iload_n C 4 dX9_set_52 rfl ?_
        refine g_iload C 5 dX9_set_53 rfl ?_
        refine g_iload C 6 dX9_set_55 rfl ?_
        obtain ⟨s57, h1, hf⟩ := g_bind hf
        refine g_callVv C 5 [.int p1, .int p2, .int p3, .int p4, .int p5] (c_X9_put (Xl X) (gC_I C)  h1) ⟨wml_784, wim_786, wsp_13, win_10, wcd_787⟩ (by decide) sh_157 vc_9 rfl hd_X9_put ⟨rfl, rfl⟩ ⟨Nat.le_of_ble_eq_true rfl, Nat.le_of_ble_eq_true rfl⟩ rfl rfl (Nat.le_of_ble_eq_true rfl) dX9_set_57 ?_
        clear h1
        refine g_iload C 0 dX9_set_60 rfl ?_
        have e0 : r0 = (v46, s57) := (Option.some.inj hf).symm
        exact g_iret C rfl hQ (by rw [e0]) rfl dX9_set_62
      · refine g_bipush C (v := (-5)) dX9_set_32 rfl ?_
        have e0 : r0 = ((-5 : Int32), σ) := (Option.some.inj hf).symm
        exact g_iret C rfl hQ (by rw [e0]) rfl dX9_set_34
theorem c_X9_set (l : Launch) {Gw : gW} (hI : g_I Gw) {σ : sg} {p1 : Int32} {p2 : Int32} {p3 : Int32} {p4 : Int32} {p5 : Int32} {r : (Int32 × sg)}  (hf : f_X9_set σ p1 p2 p3 p4 p5 = some r) : gM l Gw yX9_set cX9_set 7 (some .int) rm_X9_set [.ref (Gw.2.2 157), .int p1, .int p2, .int p3, .int p4, .int p5] σ (qI (Gw) r.1 r.2) := by
  refine g_met hI (by decide) (Nat.le_of_ble_eq_true rfl) (fun X h1 h2 C hQ => ?_)
  subst h1; subst h2
  exact w_X9_set_e C  hQ hf
theorem dX9_removeLast_0 : decode cX9_removeLast 0 = .ok (.aload_n 0, 1) := by decide +kernel
theorem dX9_removeLast_1 : decode cX9_removeLast 1 = .ok (.getfield 100, 3) := by decide +kernel
theorem dX9_removeLast_4 : decode cX9_removeLast 4 = .ok (.ifCond .eq 6, 3) := by decide +kernel
theorem dX9_removeLast_7 : decode cX9_removeLast 7 = .ok (.bipush (-5), 2) := by decide +kernel
theorem dX9_removeLast_9 : decode cX9_removeLast 9 = .ok (.ireturn, 1) := by decide +kernel
theorem dX9_removeLast_10 : decode cX9_removeLast 10 = .ok (.aload_n 0, 1) := by decide +kernel
theorem dX9_removeLast_11 : decode cX9_removeLast 11 = .ok (.getfield 89, 3) := by decide +kernel
theorem dX9_removeLast_14 : decode cX9_removeLast 14 = .ok (.ifCond .ne 6, 3) := by decide +kernel
theorem dX9_removeLast_17 : decode cX9_removeLast 17 = .ok (.bipush (-4), 2) := by decide +kernel
theorem dX9_removeLast_19 : decode cX9_removeLast 19 = .ok (.ireturn, 1) := by decide +kernel
theorem dX9_removeLast_20 : decode cX9_removeLast 20 = .ok (.aload_n 0, 1) := by decide +kernel
theorem dX9_removeLast_21 : decode cX9_removeLast 21 = .ok (.invokevirtual 104, 3) := by decide +kernel
theorem dX9_removeLast_24 : decode cX9_removeLast 24 = .ok (.aload_n 0, 1) := by decide +kernel
theorem dX9_removeLast_25 : decode cX9_removeLast 25 = .ok (.dup, 1) := by decide +kernel
theorem dX9_removeLast_26 : decode cX9_removeLast 26 = .ok (.getfield 89, 3) := by decide +kernel
theorem dX9_removeLast_29 : decode cX9_removeLast 29 = .ok (.iconst 1, 1) := by decide +kernel
theorem dX9_removeLast_30 : decode cX9_removeLast 30 = .ok (.isub, 1) := by decide +kernel
theorem dX9_removeLast_31 : decode cX9_removeLast 31 = .ok (.putfield 89, 3) := by decide +kernel
theorem dX9_removeLast_34 : decode cX9_removeLast 34 = .ok (.aload_n 0, 1) := by decide +kernel
theorem dX9_removeLast_35 : decode cX9_removeLast 35 = .ok (.getfield 89, 3) := by decide +kernel
theorem dX9_removeLast_38 : decode cX9_removeLast 38 = .ok (.ireturn, 1) := by decide +kernel
abbrev rm_X9_removeLast : Room := { frames := 2, cells := 0, slots := 0, locals := 43 }
theorem w_X9_removeLast_e {X : gX} {σ : sg}  {r0 : (Int32 × sg)} (C : gC X cX9_removeLast 1 RX9 (some .int) rm_X9_removeLast)  (hQ : gQ X (qI (XG X) r0.1 r0.2)) (hf : f_X9_removeLast σ = some r0) : G X 1 σ 0 [(0, .ref (Xd X 157))] [] := by
  unfold f_X9_removeLast at hf
  refine g_aload_n C 0 dX9_removeLast_0 rfl ?_
  refine g_geti C 9 16 (by decide) sh_157 rfl vc_9 (by decide) inXX9 wfl_677 dX9_removeLast_1 ?_
  refine g_if_eq C 10 hf dX9_removeLast_4 (by decide) (fun hf => ?_) (fun hf => ?_)
  · refine g_aload_n C 0 dX9_removeLast_10 rfl ?_
    refine g_geti C 9 0 (by decide) sh_157 rfl vc_9 (by decide) inXX9 wfl_661 dX9_removeLast_11 ?_
    refine g_if_ne C 20 hf dX9_removeLast_14 (by decide) (fun hf => ?_) (fun hf => ?_)
    · refine g_bipush C (v := (-4)) dX9_removeLast_17 rfl ?_
      have e0 : r0 = ((-4 : Int32), σ) := (Option.some.inj hf).symm
      exact g_iret C rfl hQ (by rw [e0]) rfl dX9_removeLast_19
    · refine g_aload_n C 0 dX9_removeLast_20 rfl ?_
      obtain ⟨s21, h1, hf⟩ := g_bind hf
      refine g_callVv C 0 [] (c_X9_remember (Xl X) (gC_I C)  h1) ⟨wml_777, wim_779, wsp_12, win_10, wcd_780⟩ (by decide) sh_157 vc_9 rfl hd_X9_remember ⟨rfl, rfl⟩ ⟨Nat.le_of_ble_eq_true rfl, Nat.le_of_ble_eq_true rfl⟩ rfl rfl (Nat.le_of_ble_eq_true rfl) dX9_removeLast_21 ?_
      clear h1
      refine g_aload_n C 0 dX9_removeLast_24 rfl ?_
      refine g_dup C dX9_removeLast_25 rfl ?_
      refine g_geti C 9 0 (by decide) sh_157 rfl vc_9 (by decide) inXX9 wfl_661 dX9_removeLast_26 ?_
      refine g_iconst C (v := 1) dX9_removeLast_29 rfl ?_
      refine g_isub C dX9_removeLast_30 ?_
      obtain ⟨s31, h1, hf⟩ := g_bind hf
      refine g_put C 9 0 (by decide) sh_157 rfl (by decide) vc_9 (by decide) tyX9 tyX9_ok nmX9 inXX9 wfl_661 rfl (ty := .int) (by decide +kernel) rfl rfl dX9_removeLast_31 ?_
      rw [Option.some.inj h1]
      clear h1
      refine g_aload_n C 0 dX9_removeLast_34 rfl ?_
      refine g_geti C 9 0 (by decide) sh_157 rfl vc_9 (by decide) inXX9 wfl_661 dX9_removeLast_35 ?_
      have e0 : r0 = (s31 157 0, s31) := (Option.some.inj hf).symm
      exact g_iret C rfl hQ (by rw [e0]) rfl dX9_removeLast_38
  · refine g_bipush C (v := (-5)) dX9_removeLast_7 rfl ?_
    have e0 : r0 = ((-5 : Int32), σ) := (Option.some.inj hf).symm
    exact g_iret C rfl hQ (by rw [e0]) rfl dX9_removeLast_9
theorem c_X9_removeLast (l : Launch) {Gw : gW} (hI : g_I Gw) {σ : sg}  {r : (Int32 × sg)}  (hf : f_X9_removeLast σ = some r) : gM l Gw yX9_removeLast cX9_removeLast 1 (some .int) rm_X9_removeLast [.ref (Gw.2.2 157)] σ (qI (Gw) r.1 r.2) := by
  refine g_met hI (by decide) (Nat.le_of_ble_eq_true rfl) (fun X h1 h2 C hQ => ?_)
  subst h1; subst h2
  exact w_X9_removeLast_e C  hQ hf
theorem dX9_size_0 : decode cX9_size 0 = .ok (.aload_n 0, 1) := by decide +kernel
theorem dX9_size_1 : decode cX9_size 1 = .ok (.getfield 89, 3) := by decide +kernel
theorem dX9_size_4 : decode cX9_size 4 = .ok (.ireturn, 1) := by decide +kernel
abbrev rm_X9_size : Room := { frames := 0, cells := 0, slots := 0, locals := 0 }
theorem w_X9_size_e {X : gX} {σ : sg}  {r0 : Int32} (C : gC X cX9_size 1 RX9 (some .int) rm_X9_size)  (hQ : gQ X (qI (XG X) r0 σ)) (hf : f_X9_size σ = some r0) : G X 1 σ 0 [(0, .ref (Xd X 157))] [] := by
  unfold f_X9_size at hf
  refine g_aload_n C 0 dX9_size_0 rfl ?_
  refine g_geti C 9 0 (by decide) sh_157 rfl vc_9 (by decide) inXX9 wfl_661 dX9_size_1 ?_
  have e0 : r0 = σ 157 0 := (Option.some.inj hf).symm
  exact g_iret C rfl hQ (by rw [e0]) rfl dX9_size_4
theorem c_X9_size (l : Launch) {Gw : gW} (hI : g_I Gw) {σ : sg}  {r : Int32}  (hf : f_X9_size σ = some r) : gM l Gw yX9_size cX9_size 1 (some .int) rm_X9_size [.ref (Gw.2.2 157)] σ (qI (Gw) r σ) := by
  refine g_met hI (by decide) (Nat.le_of_ble_eq_true rfl) (fun X h1 h2 C hQ => ?_)
  subst h1; subst h2
  exact w_X9_size_e C  hQ hf
theorem dX9_part_0 : decode cX9_part 0 = .ok (.aload_n 0, 1) := by decide +kernel
theorem dX9_part_1 : decode cX9_part 1 = .ok (.iload_n 1, 1) := by decide +kernel
theorem dX9_part_2 : decode cX9_part 2 = .ok (.invokevirtual 111, 3) := by decide +kernel
theorem dX9_part_5 : decode cX9_part 5 = .ok (.ifCond .ne 5, 3) := by decide +kernel
theorem dX9_part_8 : decode cX9_part 8 = .ok (.iconst (-1), 1) := by decide +kernel
theorem dX9_part_9 : decode cX9_part 9 = .ok (.ireturn, 1) := by decide +kernel
theorem dX9_part_10 : decode cX9_part 10 = .ok (.iload_n 2, 1) := by decide +kernel
theorem dX9_part_11 : decode cX9_part 11 = .ok (.iconst 0, 1) := by decide +kernel
theorem dX9_part_12 : decode cX9_part 12 = .ok (.iconst 3, 1) := by decide +kernel
theorem dX9_part_13 : decode cX9_part 13 = .ok (.invokestatic 77, 3) := by decide +kernel
theorem dX9_part_16 : decode cX9_part 16 = .ok (.ifCond .eq 18, 3) := by decide +kernel
theorem dX9_part_19 : decode cX9_part 19 = .ok (.aload_n 0, 1) := by decide +kernel
theorem dX9_part_20 : decode cX9_part 20 = .ok (.getfield 11, 3) := by decide +kernel
theorem dX9_part_23 : decode cX9_part 23 = .ok (.iload_n 1, 1) := by decide +kernel
theorem dX9_part_24 : decode cX9_part 24 = .ok (.aaload, 1) := by decide +kernel
theorem dX9_part_25 : decode cX9_part 25 = .ok (.iload_n 2, 1) := by decide +kernel
theorem dX9_part_26 : decode cX9_part 26 = .ok (.iaload, 1) := by decide +kernel
theorem dX9_part_27 : decode cX9_part 27 = .ok (.sipush 1000, 3) := by decide +kernel
theorem dX9_part_30 : decode cX9_part 30 = .ok (.iadd, 1) := by decide +kernel
theorem dX9_part_31 : decode cX9_part 31 = .ok (.goto 5, 3) := by decide +kernel
theorem dX9_part_34 : decode cX9_part 34 = .ok (.bipush (-2), 2) := by decide +kernel
theorem dX9_part_36 : decode cX9_part 36 = .ok (.ireturn, 1) := by decide +kernel
abbrev rm_X9_part : Room := { frames := 2, cells := 0, slots := 0, locals := 43 }
theorem w_X9_part_e {X : gX} {σ : sg} {p1 : Int32} {p2 : Int32} {r0 : Int32} (C : gC X cX9_part 3 RX9 (some .int) rm_X9_part)  (hQ : gQ X (qI (XG X) r0 σ)) (hf : f_X9_part σ p1 p2 = some r0) : G X 3 σ 0 [(0, .ref (Xd X 157)), (1, .int p1), (2, .int p2)] [] := by
  unfold f_X9_part at hf
  refine g_aload_n C 0 dX9_part_0 rfl ?_
  refine g_iload_n C 1 dX9_part_1 rfl ?_
  obtain ⟨v2, h1, hf⟩ := g_bind hf
  refine g_callVi C 1 [.int p1] (c_X9_isThere (Xl X) (gC_I C)  h1) ⟨wml_792, wim_794, wsp_14, win_10, wcd_795⟩ (by decide) sh_157 vc_9 rfl hd_X9_isThere ⟨rfl, rfl⟩ ⟨Nat.le_of_ble_eq_true rfl, Nat.le_of_ble_eq_true rfl⟩ rfl rfl (Nat.le_of_ble_eq_true rfl) dX9_part_2 ?_
  clear h1
  refine g_if_ne C 10 hf dX9_part_5 (by decide) (fun hf => ?_) (fun hf => ?_)
  · refine g_iconst C (v := (-1)) dX9_part_8 rfl ?_
    have e0 : r0 = (-1 : Int32) := (Option.some.inj hf).symm
    exact g_iret C rfl hQ (by rw [e0]) rfl dX9_part_9
  · refine g_iload_n C 2 dX9_part_10 rfl ?_
    refine g_iconst C (v := 0) dX9_part_11 rfl ?_
    refine g_iconst C (v := 3) dX9_part_12 rfl ?_
    obtain ⟨v13, h1, hf⟩ := g_bind hf
    refine g_callSi C 3 [.int p2, .int (0 : Int32), .int (3 : Int32)] (c_X9_isBetween (Xl X) (gC_I C)  h1) ⟨wml_771, wst_772, win_10, wcd_773⟩ hd_X9_isBetween ⟨rfl, rfl⟩ ⟨Nat.le_of_ble_eq_true rfl, Nat.le_of_ble_eq_true rfl⟩ rfl rfl (Nat.le_of_ble_eq_true rfl) dX9_part_13 ?_
    clear h1
    refine g_if_eq C 34 hf dX9_part_16 (by decide) (fun hf => ?_) (fun hf => ?_)
    · refine g_bipush C (v := (-2)) dX9_part_34 rfl ?_
      have e0 : r0 = (-2 : Int32) := (Option.some.inj hf).symm
      exact g_iret C rfl hQ (by rw [e0]) rfl dX9_part_36
    · refine g_aload_n C 0 dX9_part_19 rfl ?_
      refine g_getr C 9 1 (158) (by decide) sh_157 rfl vc_9 (by decide) inXX9 wfl_662 dX9_part_20 ?_
      refine g_iload_n C 1 dX9_part_23 rfl ?_
      obtain ⟨q24, h1, hf⟩ := g_bind hf
      refine g_aald C h1 dX9_part_24 ?_
      clear h1
      refine g_iload_n C 2 dX9_part_25 rfl ?_
      obtain ⟨v26, h1, hf⟩ := g_bind hf
      refine g_iald C h1 dX9_part_26 ?_
      clear h1
      refine g_sipush C (v := 1000) dX9_part_27 rfl ?_
      refine g_iadd C dX9_part_30 ?_
      refine g_goto C 36 dX9_part_31 (by decide) ?_
      have e0 : r0 = v26 + (1000 : Int32) := (Option.some.inj hf).symm
      exact g_iret C rfl hQ (by rw [e0]) rfl dX9_part_36
theorem c_X9_part (l : Launch) {Gw : gW} (hI : g_I Gw) {σ : sg} {p1 : Int32} {p2 : Int32} {r : Int32}  (hf : f_X9_part σ p1 p2 = some r) : gM l Gw yX9_part cX9_part 3 (some .int) rm_X9_part [.ref (Gw.2.2 157), .int p1, .int p2] σ (qI (Gw) r σ) := by
  refine g_met hI (by decide) (Nat.le_of_ble_eq_true rfl) (fun X h1 h2 C hQ => ?_)
  subst h1; subst h2
  exact w_X9_part_e C  hQ hf
theorem dX9_undo_0 : decode cX9_undo 0 = .ok (.aload_n 0, 1) := by decide +kernel
theorem dX9_undo_1 : decode cX9_undo 1 = .ok (.getfield 100, 3) := by decide +kernel
theorem dX9_undo_4 : decode cX9_undo 4 = .ok (.ifCond .eq 6, 3) := by decide +kernel
theorem dX9_undo_7 : decode cX9_undo 7 = .ok (.bipush (-5), 2) := by decide +kernel
theorem dX9_undo_9 : decode cX9_undo 9 = .ok (.ireturn, 1) := by decide +kernel
theorem dX9_undo_10 : decode cX9_undo 10 = .ok (.aload_n 0, 1) := by decide +kernel
theorem dX9_undo_11 : decode cX9_undo 11 = .ok (.getfield 81, 3) := by decide +kernel
theorem dX9_undo_14 : decode cX9_undo 14 = .ok (.ifCond .ne 6, 3) := by decide +kernel
theorem dX9_undo_17 : decode cX9_undo 17 = .ok (.bipush (-4), 2) := by decide +kernel
theorem dX9_undo_19 : decode cX9_undo 19 = .ok (.ireturn, 1) := by decide +kernel
theorem dX9_undo_20 : decode cX9_undo 20 = .ok (.aload_n 0, 1) := by decide +kernel
theorem dX9_undo_21 : decode cX9_undo 21 = .ok (.dup, 1) := by decide +kernel
theorem dX9_undo_22 : decode cX9_undo 22 = .ok (.getfield 81, 3) := by decide +kernel
theorem dX9_undo_25 : decode cX9_undo 25 = .ok (.iconst 1, 1) := by decide +kernel
theorem dX9_undo_26 : decode cX9_undo 26 = .ok (.isub, 1) := by decide +kernel
theorem dX9_undo_27 : decode cX9_undo 27 = .ok (.putfield 81, 3) := by decide +kernel
theorem dX9_undo_30 : decode cX9_undo 30 = .ok (.aload_n 0, 1) := by decide +kernel
theorem dX9_undo_31 : decode cX9_undo 31 = .ok (.aload_n 0, 1) := by decide +kernel
theorem dX9_undo_32 : decode cX9_undo 32 = .ok (.getfield 19, 3) := by decide +kernel
theorem dX9_undo_35 : decode cX9_undo 35 = .ok (.aload_n 0, 1) := by decide +kernel
theorem dX9_undo_36 : decode cX9_undo 36 = .ok (.getfield 81, 3) := by decide +kernel
theorem dX9_undo_39 : decode cX9_undo 39 = .ok (.iaload, 1) := by decide +kernel
theorem dX9_undo_40 : decode cX9_undo 40 = .ok (.putfield 89, 3) := by decide +kernel
theorem dX9_undo_43 : decode cX9_undo 43 = .ok (.aload_n 0, 1) := by decide +kernel
theorem dX9_undo_44 : decode cX9_undo 44 = .ok (.getfield 16, 3) := by decide +kernel
theorem dX9_undo_47 : decode cX9_undo 47 = .ok (.aload_n 0, 1) := by decide +kernel
theorem dX9_undo_48 : decode cX9_undo 48 = .ok (.getfield 81, 3) := by decide +kernel
theorem dX9_undo_51 : decode cX9_undo 51 = .ok (.aaload, 1) := by decide +kernel
theorem dX9_undo_52 : decode cX9_undo 52 = .ok (.aload_n 0, 1) := by decide +kernel
theorem dX9_undo_53 : decode cX9_undo 53 = .ok (.getfield 11, 3) := by decide +kernel
theorem dX9_undo_56 : decode cX9_undo 56 = .ok (.invokestatic 85, 3) := by decide +kernel
theorem dX9_undo_59 : decode cX9_undo 59 = .ok (.aload_n 0, 1) := by decide +kernel
theorem dX9_undo_60 : decode cX9_undo 60 = .ok (.getfield 81, 3) := by decide +kernel
theorem dX9_undo_63 : decode cX9_undo 63 = .ok (.ireturn, 1) := by decide +kernel
abbrev rm_X9_undo : Room := { frames := 1, cells := 0, slots := 0, locals := 22 }
theorem w_X9_undo_e {X : gX} {σ : sg}  {r0 : (Int32 × sg)} (C : gC X cX9_undo 1 RX9 (some .int) rm_X9_undo)  (hQ : gQ X (qI (XG X) r0.1 r0.2)) (hf : f_X9_undo σ = some r0) : G X 1 σ 0 [(0, .ref (Xd X 157))] [] := by
  unfold f_X9_undo at hf
  refine g_aload_n C 0 dX9_undo_0 rfl ?_
  refine g_geti C 9 16 (by decide) sh_157 rfl vc_9 (by decide) inXX9 wfl_677 dX9_undo_1 ?_
  refine g_if_eq C 10 hf dX9_undo_4 (by decide) (fun hf => ?_) (fun hf => ?_)
  · refine g_aload_n C 0 dX9_undo_10 rfl ?_
    refine g_geti C 9 4 (by decide) sh_157 rfl vc_9 (by decide) inXX9 wfl_665 dX9_undo_11 ?_
    refine g_if_ne C 20 hf dX9_undo_14 (by decide) (fun hf => ?_) (fun hf => ?_)
    · refine g_bipush C (v := (-4)) dX9_undo_17 rfl ?_
      have e0 : r0 = ((-4 : Int32), σ) := (Option.some.inj hf).symm
      exact g_iret C rfl hQ (by rw [e0]) rfl dX9_undo_19
    · refine g_aload_n C 0 dX9_undo_20 rfl ?_
      refine g_dup C dX9_undo_21 rfl ?_
      refine g_geti C 9 4 (by decide) sh_157 rfl vc_9 (by decide) inXX9 wfl_665 dX9_undo_22 ?_
      refine g_iconst C (v := 1) dX9_undo_25 rfl ?_
      refine g_isub C dX9_undo_26 ?_
      obtain ⟨s27, h1, hf⟩ := g_bind hf
      refine g_put C 9 4 (by decide) sh_157 rfl (by decide) vc_9 (by decide) tyX9 tyX9_ok nmX9 inXX9 wfl_665 rfl (ty := .int) (by decide +kernel) rfl rfl dX9_undo_27 ?_
      rw [Option.some.inj h1]
      clear h1
      refine g_aload_n C 0 dX9_undo_30 rfl ?_
      refine g_aload_n C 0 dX9_undo_31 rfl ?_
      refine g_getr C 9 3 (610) (by decide) sh_157 rfl vc_9 (by decide) inXX9 wfl_664 dX9_undo_32 ?_
      refine g_aload_n C 0 dX9_undo_35 rfl ?_
      refine g_geti C 9 4 (by decide) sh_157 rfl vc_9 (by decide) inXX9 wfl_665 dX9_undo_36 ?_
      obtain ⟨v39, h1, hf⟩ := g_bind hf
      refine g_iald C h1 dX9_undo_39 ?_
      clear h1
      obtain ⟨s40, h1, hf⟩ := g_bind hf
      refine g_put C 9 0 (by decide) sh_157 rfl (by decide) vc_9 (by decide) tyX9 tyX9_ok nmX9 inXX9 wfl_661 rfl (ty := .int) (by decide +kernel) rfl rfl dX9_undo_40 ?_
      rw [Option.some.inj h1]
      clear h1
      refine g_aload_n C 0 dX9_undo_43 rfl ?_
      refine g_getr C 9 2 (199) (by decide) sh_157 rfl vc_9 (by decide) inXX9 wfl_663 dX9_undo_44 ?_
      refine g_aload_n C 0 dX9_undo_47 rfl ?_
      refine g_geti C 9 4 (by decide) sh_157 rfl vc_9 (by decide) inXX9 wfl_665 dX9_undo_48 ?_
      obtain ⟨q51, h1, hf⟩ := g_bind hf
      refine g_aald C h1 dX9_undo_51 ?_
      clear h1
      refine g_aload_n C 0 dX9_undo_52 rfl ?_
      refine g_getr C 9 1 (158) (by decide) sh_157 rfl vc_9 (by decide) inXX9 wfl_662 dX9_undo_53 ?_
      obtain ⟨s56, h1, hf⟩ := g_bind hf
      refine g_callSv C 2 [.ref (Xd X q51), .ref (Xd X 158)] (c_X9_copy (Xl X) (gC_I C)  h1) ⟨wml_781, wst_782, win_10, wcd_783⟩ hd_X9_copy ⟨rfl, rfl⟩ ⟨Nat.le_of_ble_eq_true rfl, Nat.le_of_ble_eq_true rfl⟩ rfl rfl (Nat.le_of_ble_eq_true rfl) dX9_undo_56 ?_
      clear h1
      refine g_aload_n C 0 dX9_undo_59 rfl ?_
      refine g_geti C 9 4 (by decide) sh_157 rfl vc_9 (by decide) inXX9 wfl_665 dX9_undo_60 ?_
      have e0 : r0 = (s56 157 4, s56) := (Option.some.inj hf).symm
      exact g_iret C rfl hQ (by rw [e0]) rfl dX9_undo_63
  · refine g_bipush C (v := (-5)) dX9_undo_7 rfl ?_
    have e0 : r0 = ((-5 : Int32), σ) := (Option.some.inj hf).symm
    exact g_iret C rfl hQ (by rw [e0]) rfl dX9_undo_9
theorem c_X9_undo (l : Launch) {Gw : gW} (hI : g_I Gw) {σ : sg}  {r : (Int32 × sg)}  (hf : f_X9_undo σ = some r) : gM l Gw yX9_undo cX9_undo 1 (some .int) rm_X9_undo [.ref (Gw.2.2 157)] σ (qI (Gw) r.1 r.2) := by
  refine g_met hI (by decide) (Nat.le_of_ble_eq_true rfl) (fun X h1 h2 C hQ => ?_)
  subst h1; subst h2
  exact w_X9_undo_e C  hQ hf
theorem dX9_operation_0 : decode cX9_operation 0 = .ok (.aload_n 0, 1) := by decide +kernel
theorem dX9_operation_1 : decode cX9_operation 1 = .ok (.getfield 11, 3) := by decide +kernel
theorem dX9_operation_4 : decode cX9_operation 4 = .ok (.iload_n 1, 1) := by decide +kernel
theorem dX9_operation_5 : decode cX9_operation 5 = .ok (.aaload, 1) := by decide +kernel
theorem dX9_operation_6 : decode cX9_operation 6 = .ok (.iconst 0, 1) := by decide +kernel
theorem dX9_operation_7 : decode cX9_operation 7 = .ok (.iaload, 1) := by decide +kernel
theorem dX9_operation_8 : decode cX9_operation 8 = .ok (.ireturn, 1) := by decide +kernel
abbrev rm_X9_operation : Room := { frames := 0, cells := 0, slots := 0, locals := 0 }
theorem w_X9_operation_e {X : gX} {σ : sg} {p1 : Int32} {r0 : Int32} (C : gC X cX9_operation 2 RX9 (some .int) rm_X9_operation)  (hQ : gQ X (qI (XG X) r0 σ)) (hf : f_X9_operation σ p1 = some r0) : G X 2 σ 0 [(0, .ref (Xd X 157)), (1, .int p1)] [] := by
  unfold f_X9_operation at hf
  refine g_aload_n C 0 dX9_operation_0 rfl ?_
  refine g_getr C 9 1 (158) (by decide) sh_157 rfl vc_9 (by decide) inXX9 wfl_662 dX9_operation_1 ?_
  refine g_iload_n C 1 dX9_operation_4 rfl ?_
  obtain ⟨q5, h1, hf⟩ := g_bind hf
  refine g_aald C h1 dX9_operation_5 ?_
  clear h1
  refine g_iconst C (v := 0) dX9_operation_6 rfl ?_
  obtain ⟨v7, h1, hf⟩ := g_bind hf
  refine g_iald C h1 dX9_operation_7 ?_
  clear h1
  have e0 : r0 = v7 := (Option.some.inj hf).symm
  exact g_iret C rfl hQ (by rw [e0]) rfl dX9_operation_8
theorem c_X9_operation (l : Launch) {Gw : gW} (hI : g_I Gw) {σ : sg} {p1 : Int32} {r : Int32}  (hf : f_X9_operation σ p1 = some r) : gM l Gw yX9_operation cX9_operation 2 (some .int) rm_X9_operation [.ref (Gw.2.2 157), .int p1] σ (qI (Gw) r σ) := by
  refine g_met hI (by decide) (Nat.le_of_ble_eq_true rfl) (fun X h1 h2 C hQ => ?_)
  subst h1; subst h2
  exact w_X9_operation_e C  hQ hf
theorem dX9_isExit_0 : decode cX9_isExit 0 = .ok (.aload_n 0, 1) := by decide +kernel
theorem dX9_isExit_1 : decode cX9_isExit 1 = .ok (.iload_n 1, 1) := by decide +kernel
theorem dX9_isExit_2 : decode cX9_isExit 2 = .ok (.invokevirtual 114, 3) := by decide +kernel
theorem dX9_isExit_5 : decode cX9_isExit 5 = .ok (.bipush 10, 2) := by decide +kernel
theorem dX9_isExit_7 : decode cX9_isExit 7 = .ok (.if_icmp .lt 7, 3) := by decide +kernel
theorem dX9_isExit_10 : decode cX9_isExit 10 = .ok (.iconst 1, 1) := by decide +kernel
theorem dX9_isExit_11 : decode cX9_isExit 11 = .ok (.goto 4, 3) := by decide +kernel
theorem dX9_isExit_14 : decode cX9_isExit 14 = .ok (.iconst 0, 1) := by decide +kernel
theorem dX9_isExit_15 : decode cX9_isExit 15 = .ok (.ireturn, 1) := by decide +kernel
abbrev rm_X9_isExit : Room := { frames := 1, cells := 0, slots := 0, locals := 21 }
theorem w_X9_isExit_e {X : gX} {σ : sg} {p1 : Int32} {r0 : Int32} (C : gC X cX9_isExit 2 RX9 (some .boolean) rm_X9_isExit)  (hQ : gQ X (qI (XG X) r0 σ)) (hf : f_X9_isExit σ p1 = some r0) : G X 2 σ 0 [(0, .ref (Xd X 157)), (1, .int p1)] [] := by
  unfold f_X9_isExit at hf
  refine g_aload_n C 0 dX9_isExit_0 rfl ?_
  refine g_iload_n C 1 dX9_isExit_1 rfl ?_
  obtain ⟨v2, h1, hf⟩ := g_bind hf
  refine g_callVi C 1 [.int p1] (c_X9_operation (Xl X) (gC_I C)  h1) ⟨wml_824, wim_826, wsp_17, win_10, wcd_827⟩ (by decide) sh_157 vc_9 rfl hd_X9_operation ⟨rfl, rfl⟩ ⟨Nat.le_of_ble_eq_true rfl, Nat.le_of_ble_eq_true rfl⟩ rfl rfl (Nat.le_of_ble_eq_true rfl) dX9_isExit_2 ?_
  clear h1
  refine g_bipush C (v := 10) dX9_isExit_5 rfl ?_
  refine g_icmp_lt C 14 hf dX9_isExit_7 (by decide) (fun hf => ?_) (fun hf => ?_)
  · refine g_iconst C (v := 0) dX9_isExit_14 rfl ?_
    have e0 : r0 = (0 : Int32) := (Option.some.inj hf).symm
    exact g_iret C rfl hQ (by rw [e0]) rfl dX9_isExit_15
  · refine g_iconst C (v := 1) dX9_isExit_10 rfl ?_
    refine g_goto C 15 dX9_isExit_11 (by decide) ?_
    have e0 : r0 = (1 : Int32) := (Option.some.inj hf).symm
    exact g_iret C rfl hQ (by rw [e0]) rfl dX9_isExit_15
theorem c_X9_isExit (l : Launch) {Gw : gW} (hI : g_I Gw) {σ : sg} {p1 : Int32} {r : Int32}  (hf : f_X9_isExit σ p1 = some r) : gM l Gw yX9_isExit cX9_isExit 2 (some .boolean) rm_X9_isExit [.ref (Gw.2.2 157), .int p1] σ (qI (Gw) r σ) := by
  refine g_met hI (by decide) (Nat.le_of_ble_eq_true rfl) (fun X h1 h2 C hQ => ?_)
  subst h1; subst h2
  exact w_X9_isExit_e C  hQ hf
theorem dX9_hasTarget_0 : decode cX9_hasTarget 0 = .ok (.aload_n 0, 1) := by decide +kernel
theorem dX9_hasTarget_1 : decode cX9_hasTarget 1 = .ok (.iload_n 1, 1) := by decide +kernel
theorem dX9_hasTarget_2 : decode cX9_hasTarget 2 = .ok (.invokevirtual 114, 3) := by decide +kernel
theorem dX9_hasTarget_5 : decode cX9_hasTarget 5 = .ok (.bipush 10, 2) := by decide +kernel
theorem dX9_hasTarget_7 : decode cX9_hasTarget 7 = .ok (.if_icmp .eq 13, 3) := by decide +kernel
theorem dX9_hasTarget_10 : decode cX9_hasTarget 10 = .ok (.aload_n 0, 1) := by decide +kernel
theorem dX9_hasTarget_11 : decode cX9_hasTarget 11 = .ok (.iload_n 1, 1) := by decide +kernel
theorem dX9_hasTarget_12 : decode cX9_hasTarget 12 = .ok (.invokevirtual 114, 3) := by decide +kernel
theorem dX9_hasTarget_15 : decode cX9_hasTarget 15 = .ok (.bipush 11, 2) := by decide +kernel
theorem dX9_hasTarget_17 : decode cX9_hasTarget 17 = .ok (.if_icmp .ne 7, 3) := by decide +kernel
theorem dX9_hasTarget_20 : decode cX9_hasTarget 20 = .ok (.iconst 1, 1) := by decide +kernel
theorem dX9_hasTarget_21 : decode cX9_hasTarget 21 = .ok (.goto 4, 3) := by decide +kernel
theorem dX9_hasTarget_24 : decode cX9_hasTarget 24 = .ok (.iconst 0, 1) := by decide +kernel
theorem dX9_hasTarget_25 : decode cX9_hasTarget 25 = .ok (.ireturn, 1) := by decide +kernel
abbrev rm_X9_hasTarget : Room := { frames := 1, cells := 0, slots := 0, locals := 21 }
theorem w_X9_hasTarget_20 {X : gX} {σ : sg} {r0 : Int32} (C : gC X cX9_hasTarget 2 RX9 (some .boolean) rm_X9_hasTarget)  (hQ : gQ X (qI (XG X) r0 σ))  (hf : J_X9_hasTarget_20 σ = some r0) : G X 2 σ 20 [] [] := by
  unfold J_X9_hasTarget_20 at hf
  refine g_iconst C (v := 1) dX9_hasTarget_20 rfl ?_
  refine g_goto C 25 dX9_hasTarget_21 (by decide) ?_
  have e0 : r0 = (1 : Int32) := (Option.some.inj hf).symm
  exact g_iret C rfl hQ (by rw [e0]) rfl dX9_hasTarget_25
theorem w_X9_hasTarget_e {X : gX} {σ : sg} {p1 : Int32} {r0 : Int32} (C : gC X cX9_hasTarget 2 RX9 (some .boolean) rm_X9_hasTarget)  (hQ : gQ X (qI (XG X) r0 σ)) (hf : f_X9_hasTarget σ p1 = some r0) : G X 2 σ 0 [(0, .ref (Xd X 157)), (1, .int p1)] [] := by
  unfold f_X9_hasTarget at hf
  refine g_aload_n C 0 dX9_hasTarget_0 rfl ?_
  refine g_iload_n C 1 dX9_hasTarget_1 rfl ?_
  obtain ⟨v2, h1, hf⟩ := g_bind hf
  refine g_callVi C 1 [.int p1] (c_X9_operation (Xl X) (gC_I C)  h1) ⟨wml_824, wim_826, wsp_17, win_10, wcd_827⟩ (by decide) sh_157 vc_9 rfl hd_X9_operation ⟨rfl, rfl⟩ ⟨Nat.le_of_ble_eq_true rfl, Nat.le_of_ble_eq_true rfl⟩ rfl rfl (Nat.le_of_ble_eq_true rfl) dX9_hasTarget_2 ?_
  clear h1
  refine g_bipush C (v := 10) dX9_hasTarget_5 rfl ?_
  refine g_icmp_eq C 20 hf dX9_hasTarget_7 (by decide) (fun hf => ?_) (fun hf => ?_)
  · refine g_sub [] rfl ?_
    exact w_X9_hasTarget_20 C  hQ  hf
  · refine g_aload_n C 0 dX9_hasTarget_10 rfl ?_
    refine g_iload_n C 1 dX9_hasTarget_11 rfl ?_
    obtain ⟨v12, h1, hf⟩ := g_bind hf
    refine g_callVi C 1 [.int p1] (c_X9_operation (Xl X) (gC_I C)  h1) ⟨wml_824, wim_826, wsp_17, win_10, wcd_827⟩ (by decide) sh_157 vc_9 rfl hd_X9_operation ⟨rfl, rfl⟩ ⟨Nat.le_of_ble_eq_true rfl, Nat.le_of_ble_eq_true rfl⟩ rfl rfl (Nat.le_of_ble_eq_true rfl) dX9_hasTarget_12 ?_
    clear h1
    refine g_bipush C (v := 11) dX9_hasTarget_15 rfl ?_
    refine g_icmp_ne C 24 hf dX9_hasTarget_17 (by decide) (fun hf => ?_) (fun hf => ?_)
    · refine g_sub [] rfl ?_
      exact w_X9_hasTarget_20 C  hQ  hf
    · refine g_iconst C (v := 0) dX9_hasTarget_24 rfl ?_
      have e0 : r0 = (0 : Int32) := (Option.some.inj hf).symm
      exact g_iret C rfl hQ (by rw [e0]) rfl dX9_hasTarget_25
theorem c_X9_hasTarget (l : Launch) {Gw : gW} (hI : g_I Gw) {σ : sg} {p1 : Int32} {r : Int32}  (hf : f_X9_hasTarget σ p1 = some r) : gM l Gw yX9_hasTarget cX9_hasTarget 2 (some .boolean) rm_X9_hasTarget [.ref (Gw.2.2 157), .int p1] σ (qI (Gw) r σ) := by
  refine g_met hI (by decide) (Nat.le_of_ble_eq_true rfl) (fun X h1 h2 C hQ => ?_)
  subst h1; subst h2
  exact w_X9_hasTarget_e C  hQ hf
theorem dX9_latency_0 : decode cX9_latency 0 = .ok (.aload_n 0, 1) := by decide +kernel
theorem dX9_latency_1 : decode cX9_latency 1 = .ok (.iload_n 1, 1) := by decide +kernel
theorem dX9_latency_2 : decode cX9_latency 2 = .ok (.invokevirtual 114, 3) := by decide +kernel
theorem dX9_latency_5 : decode cX9_latency 5 = .ok (.bipush 7, 2) := by decide +kernel
theorem dX9_latency_7 : decode cX9_latency 7 = .ok (.if_icmp .ne 7, 3) := by decide +kernel
theorem dX9_latency_10 : decode cX9_latency 10 = .ok (.iconst 3, 1) := by decide +kernel
theorem dX9_latency_11 : decode cX9_latency 11 = .ok (.goto 18, 3) := by decide +kernel
theorem dX9_latency_14 : decode cX9_latency 14 = .ok (.aload_n 0, 1) := by decide +kernel
theorem dX9_latency_15 : decode cX9_latency 15 = .ok (.iload_n 1, 1) := by decide +kernel
theorem dX9_latency_16 : decode cX9_latency 16 = .ok (.invokevirtual 114, 3) := by decide +kernel
theorem dX9_latency_19 : decode cX9_latency 19 = .ok (.bipush 8, 2) := by decide +kernel
theorem dX9_latency_21 : decode cX9_latency 21 = .ok (.if_icmp .ne 7, 3) := by decide +kernel
theorem dX9_latency_24 : decode cX9_latency 24 = .ok (.iconst 2, 1) := by decide +kernel
theorem dX9_latency_25 : decode cX9_latency 25 = .ok (.goto 4, 3) := by decide +kernel
theorem dX9_latency_28 : decode cX9_latency 28 = .ok (.iconst 1, 1) := by decide +kernel
theorem dX9_latency_29 : decode cX9_latency 29 = .ok (.ireturn, 1) := by decide +kernel
abbrev rm_X9_latency : Room := { frames := 1, cells := 0, slots := 0, locals := 21 }
theorem w_X9_latency_e {X : gX} {σ : sg} {p1 : Int32} {r0 : Int32} (C : gC X cX9_latency 2 RX9 (some .int) rm_X9_latency)  (hQ : gQ X (qI (XG X) r0 σ)) (hf : f_X9_latency σ p1 = some r0) : G X 2 σ 0 [(0, .ref (Xd X 157)), (1, .int p1)] [] := by
  unfold f_X9_latency at hf
  refine g_aload_n C 0 dX9_latency_0 rfl ?_
  refine g_iload_n C 1 dX9_latency_1 rfl ?_
  obtain ⟨v2, h1, hf⟩ := g_bind hf
  refine g_callVi C 1 [.int p1] (c_X9_operation (Xl X) (gC_I C)  h1) ⟨wml_824, wim_826, wsp_17, win_10, wcd_827⟩ (by decide) sh_157 vc_9 rfl hd_X9_operation ⟨rfl, rfl⟩ ⟨Nat.le_of_ble_eq_true rfl, Nat.le_of_ble_eq_true rfl⟩ rfl rfl (Nat.le_of_ble_eq_true rfl) dX9_latency_2 ?_
  clear h1
  refine g_bipush C (v := 7) dX9_latency_5 rfl ?_
  refine g_icmp_ne C 14 hf dX9_latency_7 (by decide) (fun hf => ?_) (fun hf => ?_)
  · refine g_iconst C (v := 3) dX9_latency_10 rfl ?_
    refine g_goto C 29 dX9_latency_11 (by decide) ?_
    have e0 : r0 = (3 : Int32) := (Option.some.inj hf).symm
    exact g_iret C rfl hQ (by rw [e0]) rfl dX9_latency_29
  · refine g_aload_n C 0 dX9_latency_14 rfl ?_
    refine g_iload_n C 1 dX9_latency_15 rfl ?_
    obtain ⟨v16, h1, hf⟩ := g_bind hf
    refine g_callVi C 1 [.int p1] (c_X9_operation (Xl X) (gC_I C)  h1) ⟨wml_824, wim_826, wsp_17, win_10, wcd_827⟩ (by decide) sh_157 vc_9 rfl hd_X9_operation ⟨rfl, rfl⟩ ⟨Nat.le_of_ble_eq_true rfl, Nat.le_of_ble_eq_true rfl⟩ rfl rfl (Nat.le_of_ble_eq_true rfl) dX9_latency_16 ?_
    clear h1
    refine g_bipush C (v := 8) dX9_latency_19 rfl ?_
    refine g_icmp_ne C 28 hf dX9_latency_21 (by decide) (fun hf => ?_) (fun hf => ?_)
    · refine g_iconst C (v := 2) dX9_latency_24 rfl ?_
      refine g_goto C 29 dX9_latency_25 (by decide) ?_
      have e0 : r0 = (2 : Int32) := (Option.some.inj hf).symm
      exact g_iret C rfl hQ (by rw [e0]) rfl dX9_latency_29
    · refine g_iconst C (v := 1) dX9_latency_28 rfl ?_
      have e0 : r0 = (1 : Int32) := (Option.some.inj hf).symm
      exact g_iret C rfl hQ (by rw [e0]) rfl dX9_latency_29
theorem c_X9_latency (l : Launch) {Gw : gW} (hI : g_I Gw) {σ : sg} {p1 : Int32} {r : Int32}  (hf : f_X9_latency σ p1 = some r) : gM l Gw yX9_latency cX9_latency 2 (some .int) rm_X9_latency [.ref (Gw.2.2 157), .int p1] σ (qI (Gw) r σ) := by
  refine g_met hI (by decide) (Nat.le_of_ble_eq_true rfl) (fun X h1 h2 C hQ => ?_)
  subst h1; subst h2
  exact w_X9_latency_e C  hQ hf
theorem dX9_written_0 : decode cX9_written 0 = .ok (.aload_n 0, 1) := by decide +kernel
theorem dX9_written_1 : decode cX9_written 1 = .ok (.iload_n 1, 1) := by decide +kernel
theorem dX9_written_2 : decode cX9_written 2 = .ok (.invokevirtual 114, 3) := by decide +kernel
theorem dX9_written_5 : decode cX9_written 5 = .ok (.bipush 8, 2) := by decide +kernel
theorem dX9_written_7 : decode cX9_written 7 = .ok (.if_icmp .gt 14, 3) := by decide +kernel
theorem dX9_written_10 : decode cX9_written 10 = .ok (.aload_n 0, 1) := by decide +kernel
theorem dX9_written_11 : decode cX9_written 11 = .ok (.getfield 11, 3) := by decide +kernel
theorem dX9_written_14 : decode cX9_written 14 = .ok (.iload_n 1, 1) := by decide +kernel
theorem dX9_written_15 : decode cX9_written 15 = .ok (.aaload, 1) := by decide +kernel
theorem dX9_written_16 : decode cX9_written 16 = .ok (.iconst 1, 1) := by decide +kernel
theorem dX9_written_17 : decode cX9_written 17 = .ok (.iaload, 1) := by decide +kernel
theorem dX9_written_18 : decode cX9_written 18 = .ok (.goto 4, 3) := by decide +kernel
theorem dX9_written_21 : decode cX9_written 21 = .ok (.iconst (-1), 1) := by decide +kernel
theorem dX9_written_22 : decode cX9_written 22 = .ok (.ireturn, 1) := by decide +kernel
abbrev rm_X9_written : Room := { frames := 1, cells := 0, slots := 0, locals := 21 }
theorem w_X9_written_e {X : gX} {σ : sg} {p1 : Int32} {r0 : Int32} (C : gC X cX9_written 2 RX9 (some .int) rm_X9_written)  (hQ : gQ X (qI (XG X) r0 σ)) (hf : f_X9_written σ p1 = some r0) : G X 2 σ 0 [(0, .ref (Xd X 157)), (1, .int p1)] [] := by
  unfold f_X9_written at hf
  refine g_aload_n C 0 dX9_written_0 rfl ?_
  refine g_iload_n C 1 dX9_written_1 rfl ?_
  obtain ⟨v2, h1, hf⟩ := g_bind hf
  refine g_callVi C 1 [.int p1] (c_X9_operation (Xl X) (gC_I C)  h1) ⟨wml_824, wim_826, wsp_17, win_10, wcd_827⟩ (by decide) sh_157 vc_9 rfl hd_X9_operation ⟨rfl, rfl⟩ ⟨Nat.le_of_ble_eq_true rfl, Nat.le_of_ble_eq_true rfl⟩ rfl rfl (Nat.le_of_ble_eq_true rfl) dX9_written_2 ?_
  clear h1
  refine g_bipush C (v := 8) dX9_written_5 rfl ?_
  refine g_icmp_gt C 21 hf dX9_written_7 (by decide) (fun hf => ?_) (fun hf => ?_)
  · refine g_iconst C (v := (-1)) dX9_written_21 rfl ?_
    have e0 : r0 = (-1 : Int32) := (Option.some.inj hf).symm
    exact g_iret C rfl hQ (by rw [e0]) rfl dX9_written_22
  · refine g_aload_n C 0 dX9_written_10 rfl ?_
    refine g_getr C 9 1 (158) (by decide) sh_157 rfl vc_9 (by decide) inXX9 wfl_662 dX9_written_11 ?_
    refine g_iload_n C 1 dX9_written_14 rfl ?_
    obtain ⟨q15, h1, hf⟩ := g_bind hf
    refine g_aald C h1 dX9_written_15 ?_
    clear h1
    refine g_iconst C (v := 1) dX9_written_16 rfl ?_
    obtain ⟨v17, h1, hf⟩ := g_bind hf
    refine g_iald C h1 dX9_written_17 ?_
    clear h1
    refine g_goto C 22 dX9_written_18 (by decide) ?_
    have e0 : r0 = v17 := (Option.some.inj hf).symm
    exact g_iret C rfl hQ (by rw [e0]) rfl dX9_written_22
theorem c_X9_written (l : Launch) {Gw : gW} (hI : g_I Gw) {σ : sg} {p1 : Int32} {r : Int32}  (hf : f_X9_written σ p1 = some r) : gM l Gw yX9_written cX9_written 2 (some .int) rm_X9_written [.ref (Gw.2.2 157), .int p1] σ (qI (Gw) r σ) := by
  refine g_met hI (by decide) (Nat.le_of_ble_eq_true rfl) (fun X h1 h2 C hQ => ?_)
  subst h1; subst h2
  exact w_X9_written_e C  hQ hf
theorem dX9_reads_0 : decode cX9_reads 0 = .ok (.aload_n 0, 1) := by decide +kernel
theorem dX9_reads_1 : decode cX9_reads 1 = .ok (.iload_n 1, 1) := by decide +kernel
theorem dX9_reads_2 : decode cX9_reads 2 = .ok (.invokevirtual 114, 3) := by decide +kernel
theorem dX9_reads_5 : decode cX9_reads 5 = .ok (.istore_n 3, 1) := by decide +kernel
theorem dX9_reads_6 : decode cX9_reads 6 = .ok (.iload_n 3, 1) := by decide +kernel
theorem dX9_reads_7 : decode cX9_reads 7 = .ok (.iconst 1, 1) := by decide +kernel
theorem dX9_reads_8 : decode cX9_reads 8 = .ok (.if_icmp .lt 25, 3) := by decide +kernel
theorem dX9_reads_11 : decode cX9_reads 11 = .ok (.iload_n 3, 1) := by decide +kernel
theorem dX9_reads_12 : decode cX9_reads 12 = .ok (.bipush 9, 2) := by decide +kernel
theorem dX9_reads_14 : decode cX9_reads 14 = .ok (.if_icmp .gt 19, 3) := by decide +kernel
theorem dX9_reads_17 : decode cX9_reads 17 = .ok (.aload_n 0, 1) := by decide +kernel
theorem dX9_reads_18 : decode cX9_reads 18 = .ok (.getfield 11, 3) := by decide +kernel
theorem dX9_reads_21 : decode cX9_reads 21 = .ok (.iload_n 1, 1) := by decide +kernel
theorem dX9_reads_22 : decode cX9_reads 22 = .ok (.aaload, 1) := by decide +kernel
theorem dX9_reads_23 : decode cX9_reads 23 = .ok (.iconst 2, 1) := by decide +kernel
theorem dX9_reads_24 : decode cX9_reads 24 = .ok (.iaload, 1) := by decide +kernel
theorem dX9_reads_25 : decode cX9_reads 25 = .ok (.iload_n 2, 1) := by decide +kernel
theorem dX9_reads_26 : decode cX9_reads 26 = .ok (.if_icmp .ne 7, 3) := by decide +kernel
theorem dX9_reads_29 : decode cX9_reads 29 = .ok (.iconst 1, 1) := by decide +kernel
theorem dX9_reads_30 : decode cX9_reads 30 = .ok (.goto 4, 3) := by decide +kernel
theorem dX9_reads_33 : decode cX9_reads 33 = .ok (.iconst 0, 1) := by decide +kernel
theorem dX9_reads_34 : decode cX9_reads 34 = .ok (.istore 4, 2) := by decide +kernel
theorem dX9_reads_36 : decode cX9_reads 36 = .ok (.iload_n 3, 1) := by decide +kernel
theorem dX9_reads_37 : decode cX9_reads 37 = .ok (.iconst 1, 1) := by decide +kernel
theorem dX9_reads_38 : decode cX9_reads 38 = .ok (.if_icmp .lt 9, 3) := by decide +kernel
theorem dX9_reads_41 : decode cX9_reads 41 = .ok (.iload_n 3, 1) := by decide +kernel
theorem dX9_reads_42 : decode cX9_reads 42 = .ok (.bipush 7, 2) := by decide +kernel
theorem dX9_reads_44 : decode cX9_reads 44 = .ok (.if_icmp .le 15, 3) := by decide +kernel
theorem dX9_reads_47 : decode cX9_reads 47 = .ok (.iload_n 3, 1) := by decide +kernel
theorem dX9_reads_48 : decode cX9_reads 48 = .ok (.bipush 9, 2) := by decide +kernel
theorem dX9_reads_50 : decode cX9_reads 50 = .ok (.if_icmp .eq 9, 3) := by decide +kernel
theorem dX9_reads_53 : decode cX9_reads 53 = .ok (.iload_n 3, 1) := by decide +kernel
theorem dX9_reads_54 : decode cX9_reads 54 = .ok (.bipush 11, 2) := by decide +kernel
theorem dX9_reads_56 : decode cX9_reads 56 = .ok (.if_icmp .ne 19, 3) := by decide +kernel
theorem dX9_reads_59 : decode cX9_reads 59 = .ok (.aload_n 0, 1) := by decide +kernel
theorem dX9_reads_60 : decode cX9_reads 60 = .ok (.getfield 11, 3) := by decide +kernel
theorem dX9_reads_63 : decode cX9_reads 63 = .ok (.iload_n 1, 1) := by decide +kernel
theorem dX9_reads_64 : decode cX9_reads 64 = .ok (.aaload, 1) := by decide +kernel
theorem dX9_reads_65 : decode cX9_reads 65 = .ok (.iconst 3, 1) := by decide +kernel
theorem dX9_reads_66 : decode cX9_reads 66 = .ok (.iaload, 1) := by decide +kernel
theorem dX9_reads_67 : decode cX9_reads 67 = .ok (.iload_n 2, 1) := by decide +kernel
theorem dX9_reads_68 : decode cX9_reads 68 = .ok (.if_icmp .ne 7, 3) := by decide +kernel
theorem dX9_reads_71 : decode cX9_reads 71 = .ok (.iconst 1, 1) := by decide +kernel
theorem dX9_reads_72 : decode cX9_reads 72 = .ok (.goto 4, 3) := by decide +kernel
theorem dX9_reads_75 : decode cX9_reads 75 = .ok (.iconst 0, 1) := by decide +kernel
theorem dX9_reads_76 : decode cX9_reads 76 = .ok (.istore 5, 2) := by decide +kernel
theorem dX9_reads_78 : decode cX9_reads 78 = .ok (.iload 4, 2) := by decide +kernel
theorem dX9_reads_80 : decode cX9_reads 80 = .ok (.ifCond .ne 8, 3) := by decide +kernel
theorem dX9_reads_83 : decode cX9_reads 83 = .ok (.iload 5, 2) := by decide +kernel
theorem dX9_reads_85 : decode cX9_reads 85 = .ok (.ifCond .eq 7, 3) := by decide +kernel
theorem dX9_reads_88 : decode cX9_reads 88 = .ok (.iconst 1, 1) := by decide +kernel
theorem dX9_reads_89 : decode cX9_reads 89 = .ok (.goto 4, 3) := by decide +kernel
theorem dX9_reads_92 : decode cX9_reads 92 = .ok (.iconst 0, 1) := by decide +kernel
theorem dX9_reads_93 : decode cX9_reads 93 = .ok (.ireturn, 1) := by decide +kernel
abbrev rm_X9_reads : Room := { frames := 1, cells := 0, slots := 0, locals := 21 }
theorem w_X9_reads_88 {X : gX} {σ : sg} {r0 : Int32} (C : gC X cX9_reads 6 RX9 (some .boolean) rm_X9_reads)  (hQ : gQ X (qI (XG X) r0 σ))  (hf : J_X9_reads_88 σ = some r0) : G X 6 σ 88 [] [] := by
  unfold J_X9_reads_88 at hf
  refine g_iconst C (v := 1) dX9_reads_88 rfl ?_
  refine g_goto C 93 dX9_reads_89 (by decide) ?_
  have e0 : r0 = (1 : Int32) := (Option.some.inj hf).symm
  exact g_iret C rfl hQ (by rw [e0]) rfl dX9_reads_93
theorem w_X9_reads_76 {X : gX} {σ : sg} {x4 : Int32} {t0 : Int32} {r0 : Int32} (C : gC X cX9_reads 6 RX9 (some .boolean) rm_X9_reads)  (hQ : gQ X (qI (XG X) r0 σ))  (hf : J_X9_reads_76 σ x4 t0 = some r0) : G X 6 σ 76 [(4, .int x4)] [.int t0] := by
  unfold J_X9_reads_76 at hf
  refine g_istore C (lv' := [(5, .int t0), (4, .int x4)]) dX9_reads_76 (by decide) rfl ?_
  refine g_iload C 1 dX9_reads_78 rfl ?_
  refine g_if_ne C 88 hf dX9_reads_80 (by decide) (fun hf => ?_) (fun hf => ?_)
  · refine g_iload C 0 dX9_reads_83 rfl ?_
    refine g_if_eq C 92 hf dX9_reads_85 (by decide) (fun hf => ?_) (fun hf => ?_)
    · refine g_iconst C (v := 0) dX9_reads_92 rfl ?_
      have e0 : r0 = (0 : Int32) := (Option.some.inj hf).symm
      exact g_iret C rfl hQ (by rw [e0]) rfl dX9_reads_93
    · refine g_sub [] rfl ?_
      exact w_X9_reads_88 C  hQ  hf
  · refine g_sub [] rfl ?_
    exact w_X9_reads_88 C  hQ  hf
theorem w_X9_reads_75 {X : gX} {σ : sg} {x4 : Int32} {r0 : Int32} (C : gC X cX9_reads 6 RX9 (some .boolean) rm_X9_reads)  (hQ : gQ X (qI (XG X) r0 σ))  (hf : J_X9_reads_75 σ x4 = some r0) : G X 6 σ 75 [(4, .int x4)] [] := by
  unfold J_X9_reads_75 at hf
  refine g_iconst C (v := 0) dX9_reads_75 rfl ?_
  exact w_X9_reads_76 C  hQ  hf
theorem w_X9_reads_59 {X : gX} {σ : sg} {p1 : Int32} {p2 : Int32} {x4 : Int32} {r0 : Int32} (C : gC X cX9_reads 6 RX9 (some .boolean) rm_X9_reads)  (hQ : gQ X (qI (XG X) r0 σ))  (hf : J_X9_reads_59 σ p1 p2 x4 = some r0) : G X 6 σ 59 [(0, .ref (Xd X 157)), (1, .int p1), (2, .int p2), (4, .int x4)] [] := by
  unfold J_X9_reads_59 at hf
  refine g_aload_n C 0 dX9_reads_59 rfl ?_
  refine g_getr C 9 1 (158) (by decide) sh_157 rfl vc_9 (by decide) inXX9 wfl_662 dX9_reads_60 ?_
  refine g_iload_n C 1 dX9_reads_63 rfl ?_
  obtain ⟨q64, h1, hf⟩ := g_bind hf
  refine g_aald C h1 dX9_reads_64 ?_
  clear h1
  refine g_iconst C (v := 3) dX9_reads_65 rfl ?_
  obtain ⟨v66, h1, hf⟩ := g_bind hf
  refine g_iald C h1 dX9_reads_66 ?_
  clear h1
  refine g_iload_n C 2 dX9_reads_67 rfl ?_
  refine g_icmp_ne C 75 hf dX9_reads_68 (by decide) (fun hf => ?_) (fun hf => ?_)
  · refine g_iconst C (v := 1) dX9_reads_71 rfl ?_
    refine g_goto C 76 dX9_reads_72 (by decide) ?_
    refine g_sub [3] rfl ?_
    exact w_X9_reads_76 C  hQ  hf
  · refine g_sub [3] rfl ?_
    exact w_X9_reads_75 C  hQ  hf
theorem w_X9_reads_47 {X : gX} {σ : sg} {p1 : Int32} {p2 : Int32} {x3 : Int32} {x4 : Int32} {r0 : Int32} (C : gC X cX9_reads 6 RX9 (some .boolean) rm_X9_reads)  (hQ : gQ X (qI (XG X) r0 σ))  (hf : J_X9_reads_47 σ p1 p2 x3 x4 = some r0) : G X 6 σ 47 [(0, .ref (Xd X 157)), (1, .int p1), (2, .int p2), (3, .int x3), (4, .int x4)] [] := by
  unfold J_X9_reads_47 at hf
  refine g_iload_n C 3 dX9_reads_47 rfl ?_
  refine g_bipush C (v := 9) dX9_reads_48 rfl ?_
  refine g_icmp_eq C 59 hf dX9_reads_50 (by decide) (fun hf => ?_) (fun hf => ?_)
  · refine g_sub [0, 1, 2, 4] rfl ?_
    exact w_X9_reads_59 C  hQ  hf
  · refine g_iload_n C 3 dX9_reads_53 rfl ?_
    refine g_bipush C (v := 11) dX9_reads_54 rfl ?_
    refine g_icmp_ne C 75 hf dX9_reads_56 (by decide) (fun hf => ?_) (fun hf => ?_)
    · refine g_sub [0, 1, 2, 4] rfl ?_
      exact w_X9_reads_59 C  hQ  hf
    · refine g_sub [4] rfl ?_
      exact w_X9_reads_75 C  hQ  hf
theorem w_X9_reads_34 {X : gX} {σ : sg} {p1 : Int32} {p2 : Int32} {x3 : Int32} {t0 : Int32} {r0 : Int32} (C : gC X cX9_reads 6 RX9 (some .boolean) rm_X9_reads)  (hQ : gQ X (qI (XG X) r0 σ))  (hf : J_X9_reads_34 σ p1 p2 x3 t0 = some r0) : G X 6 σ 34 [(0, .ref (Xd X 157)), (1, .int p1), (2, .int p2), (3, .int x3)] [.int t0] := by
  unfold J_X9_reads_34 at hf
  refine g_istore C (lv' := [(4, .int t0), (0, .ref (Xd X 157)), (1, .int p1), (2, .int p2), (3, .int x3)]) dX9_reads_34 (by decide) rfl ?_
  refine g_iload_n C 4 dX9_reads_36 rfl ?_
  refine g_iconst C (v := 1) dX9_reads_37 rfl ?_
  refine g_icmp_lt C 47 hf dX9_reads_38 (by decide) (fun hf => ?_) (fun hf => ?_)
  · refine g_sub [1, 2, 3, 4, 0] rfl ?_
    exact w_X9_reads_47 C  hQ  hf
  · refine g_iload_n C 4 dX9_reads_41 rfl ?_
    refine g_bipush C (v := 7) dX9_reads_42 rfl ?_
    refine g_icmp_le C 59 hf dX9_reads_44 (by decide) (fun hf => ?_) (fun hf => ?_)
    · refine g_sub [1, 2, 3, 0] rfl ?_
      exact w_X9_reads_59 C  hQ  hf
    · refine g_sub [1, 2, 3, 4, 0] rfl ?_
      exact w_X9_reads_47 C  hQ  hf
theorem w_X9_reads_33 {X : gX} {σ : sg} {p1 : Int32} {p2 : Int32} {x3 : Int32} {r0 : Int32} (C : gC X cX9_reads 6 RX9 (some .boolean) rm_X9_reads)  (hQ : gQ X (qI (XG X) r0 σ))  (hf : J_X9_reads_33 σ p1 p2 x3 = some r0) : G X 6 σ 33 [(0, .ref (Xd X 157)), (1, .int p1), (2, .int p2), (3, .int x3)] [] := by
  unfold J_X9_reads_33 at hf
  refine g_iconst C (v := 0) dX9_reads_33 rfl ?_
  exact w_X9_reads_34 C  hQ  hf
theorem w_X9_reads_e {X : gX} {σ : sg} {p1 : Int32} {p2 : Int32} {r0 : Int32} (C : gC X cX9_reads 6 RX9 (some .boolean) rm_X9_reads)  (hQ : gQ X (qI (XG X) r0 σ)) (hf : f_X9_reads σ p1 p2 = some r0) : G X 6 σ 0 [(0, .ref (Xd X 157)), (1, .int p1), (2, .int p2)] [] := by
  unfold f_X9_reads at hf
  refine g_aload_n C 0 dX9_reads_0 rfl ?_
  refine g_iload_n C 1 dX9_reads_1 rfl ?_
  obtain ⟨v2, h1, hf⟩ := g_bind hf
  refine g_callVi C 1 [.int p1] (c_X9_operation (Xl X) (gC_I C)  h1) ⟨wml_824, wim_826, wsp_17, win_10, wcd_827⟩ (by decide) sh_157 vc_9 rfl hd_X9_operation ⟨rfl, rfl⟩ ⟨Nat.le_of_ble_eq_true rfl, Nat.le_of_ble_eq_true rfl⟩ rfl rfl (Nat.le_of_ble_eq_true rfl) dX9_reads_2 ?_
  clear h1
  refine g_istore_n C (lv' := [(3, .int v2), (0, .ref (Xd X 157)), (1, .int p1), (2, .int p2)]) dX9_reads_5 (by decide) rfl ?_
  refine g_iload_n C 0 dX9_reads_6 rfl ?_
  refine g_iconst C (v := 1) dX9_reads_7 rfl ?_
  refine g_icmp_lt C 33 hf dX9_reads_8 (by decide) (fun hf => ?_) (fun hf => ?_)
  · refine g_sub [1, 2, 3, 0] rfl ?_
    exact w_X9_reads_33 C  hQ  hf
  · refine g_iload_n C 0 dX9_reads_11 rfl ?_
    refine g_bipush C (v := 9) dX9_reads_12 rfl ?_
    refine g_icmp_gt C 33 hf dX9_reads_14 (by decide) (fun hf => ?_) (fun hf => ?_)
    · refine g_sub [1, 2, 3, 0] rfl ?_
      exact w_X9_reads_33 C  hQ  hf
    · refine g_aload_n C 1 dX9_reads_17 rfl ?_
      refine g_getr C 9 1 (158) (by decide) sh_157 rfl vc_9 (by decide) inXX9 wfl_662 dX9_reads_18 ?_
      refine g_iload_n C 2 dX9_reads_21 rfl ?_
      obtain ⟨q22, h1, hf⟩ := g_bind hf
      refine g_aald C h1 dX9_reads_22 ?_
      clear h1
      refine g_iconst C (v := 2) dX9_reads_23 rfl ?_
      obtain ⟨v24, h1, hf⟩ := g_bind hf
      refine g_iald C h1 dX9_reads_24 ?_
      clear h1
      refine g_iload_n C 3 dX9_reads_25 rfl ?_
      refine g_icmp_ne C 33 hf dX9_reads_26 (by decide) (fun hf => ?_) (fun hf => ?_)
      · refine g_iconst C (v := 1) dX9_reads_29 rfl ?_
        refine g_goto C 34 dX9_reads_30 (by decide) ?_
        refine g_sub [1, 2, 3, 0] rfl ?_
        exact w_X9_reads_34 C  hQ  hf
      · refine g_sub [1, 2, 3, 0] rfl ?_
        exact w_X9_reads_33 C  hQ  hf
theorem c_X9_reads (l : Launch) {Gw : gW} (hI : g_I Gw) {σ : sg} {p1 : Int32} {p2 : Int32} {r : Int32}  (hf : f_X9_reads σ p1 p2 = some r) : gM l Gw yX9_reads cX9_reads 6 (some .boolean) rm_X9_reads [.ref (Gw.2.2 157), .int p1, .int p2] σ (qI (Gw) r σ) := by
  refine g_met hI (by decide) (Nat.le_of_ble_eq_true rfl) (fun X h1 h2 C hQ => ?_)
  subst h1; subst h2
  exact w_X9_reads_e C  hQ hf
theorem dX9_distanceOf_0 : decode cX9_distanceOf 0 = .ok (.bipush (-4), 2) := by decide +kernel
theorem dX9_distanceOf_2 : decode cX9_distanceOf 2 = .ok (.istore_n 3, 1) := by decide +kernel
theorem dX9_distanceOf_3 : decode cX9_distanceOf 3 = .ok (.aload_n 0, 1) := by decide +kernel
theorem dX9_distanceOf_4 : decode cX9_distanceOf 4 = .ok (.iload_n 1, 1) := by decide +kernel
theorem dX9_distanceOf_5 : decode cX9_distanceOf 5 = .ok (.invokevirtual 118, 3) := by decide +kernel
theorem dX9_distanceOf_8 : decode cX9_distanceOf 8 = .ok (.istore 4, 2) := by decide +kernel
theorem dX9_distanceOf_10 : decode cX9_distanceOf 10 = .ok (.aload_n 0, 1) := by decide +kernel
theorem dX9_distanceOf_11 : decode cX9_distanceOf 11 = .ok (.iload_n 2, 1) := by decide +kernel
theorem dX9_distanceOf_12 : decode cX9_distanceOf 12 = .ok (.invokevirtual 118, 3) := by decide +kernel
theorem dX9_distanceOf_15 : decode cX9_distanceOf 15 = .ok (.istore 5, 2) := by decide +kernel
theorem dX9_distanceOf_17 : decode cX9_distanceOf 17 = .ok (.iload 4, 2) := by decide +kernel
theorem dX9_distanceOf_19 : decode cX9_distanceOf 19 = .ok (.ifCond .lt 19, 3) := by decide +kernel
theorem dX9_distanceOf_22 : decode cX9_distanceOf 22 = .ok (.aload_n 0, 1) := by decide +kernel
theorem dX9_distanceOf_23 : decode cX9_distanceOf 23 = .ok (.iload_n 2, 1) := by decide +kernel
theorem dX9_distanceOf_24 : decode cX9_distanceOf 24 = .ok (.iload 4, 2) := by decide +kernel
theorem dX9_distanceOf_26 : decode cX9_distanceOf 26 = .ok (.invokevirtual 121, 3) := by decide +kernel
theorem dX9_distanceOf_29 : decode cX9_distanceOf 29 = .ok (.ifCond .eq 9, 3) := by decide +kernel
theorem dX9_distanceOf_32 : decode cX9_distanceOf 32 = .ok (.aload_n 0, 1) := by decide +kernel
theorem dX9_distanceOf_33 : decode cX9_distanceOf 33 = .ok (.iload_n 1, 1) := by decide +kernel
theorem dX9_distanceOf_34 : decode cX9_distanceOf 34 = .ok (.invokevirtual 125, 3) := by decide +kernel
theorem dX9_distanceOf_37 : decode cX9_distanceOf 37 = .ok (.istore_n 3, 1) := by decide +kernel
theorem dX9_distanceOf_38 : decode cX9_distanceOf 38 = .ok (.iload 4, 2) := by decide +kernel
theorem dX9_distanceOf_40 : decode cX9_distanceOf 40 = .ok (.ifCond .lt 52, 3) := by decide +kernel
theorem dX9_distanceOf_43 : decode cX9_distanceOf 43 = .ok (.iload 4, 2) := by decide +kernel
theorem dX9_distanceOf_45 : decode cX9_distanceOf 45 = .ok (.iload 5, 2) := by decide +kernel
theorem dX9_distanceOf_47 : decode cX9_distanceOf 47 = .ok (.if_icmp .ne 45, 3) := by decide +kernel
theorem dX9_distanceOf_50 : decode cX9_distanceOf 50 = .ok (.aload_n 0, 1) := by decide +kernel
theorem dX9_distanceOf_51 : decode cX9_distanceOf 51 = .ok (.iload_n 1, 1) := by decide +kernel
theorem dX9_distanceOf_52 : decode cX9_distanceOf 52 = .ok (.invokevirtual 125, 3) := by decide +kernel
theorem dX9_distanceOf_55 : decode cX9_distanceOf 55 = .ok (.aload_n 0, 1) := by decide +kernel
theorem dX9_distanceOf_56 : decode cX9_distanceOf 56 = .ok (.iload_n 2, 1) := by decide +kernel
theorem dX9_distanceOf_57 : decode cX9_distanceOf 57 = .ok (.invokevirtual 125, 3) := by decide +kernel
theorem dX9_distanceOf_60 : decode cX9_distanceOf 60 = .ok (.isub, 1) := by decide +kernel
theorem dX9_distanceOf_61 : decode cX9_distanceOf 61 = .ok (.iconst 1, 1) := by decide +kernel
theorem dX9_distanceOf_62 : decode cX9_distanceOf 62 = .ok (.iadd, 1) := by decide +kernel
theorem dX9_distanceOf_63 : decode cX9_distanceOf 63 = .ok (.istore 6, 2) := by decide +kernel
theorem dX9_distanceOf_65 : decode cX9_distanceOf 65 = .ok (.iload 6, 2) := by decide +kernel
theorem dX9_distanceOf_67 : decode cX9_distanceOf 67 = .ok (.iconst 1, 1) := by decide +kernel
theorem dX9_distanceOf_68 : decode cX9_distanceOf 68 = .ok (.if_icmp .ge 7, 3) := by decide +kernel
theorem dX9_distanceOf_71 : decode cX9_distanceOf 71 = .ok (.iconst 1, 1) := by decide +kernel
theorem dX9_distanceOf_72 : decode cX9_distanceOf 72 = .ok (.goto 5, 3) := by decide +kernel
theorem dX9_distanceOf_75 : decode cX9_distanceOf 75 = .ok (.iload 6, 2) := by decide +kernel
theorem dX9_distanceOf_77 : decode cX9_distanceOf 77 = .ok (.istore 6, 2) := by decide +kernel
theorem dX9_distanceOf_79 : decode cX9_distanceOf 79 = .ok (.iload 6, 2) := by decide +kernel
theorem dX9_distanceOf_81 : decode cX9_distanceOf 81 = .ok (.iload_n 3, 1) := by decide +kernel
theorem dX9_distanceOf_82 : decode cX9_distanceOf 82 = .ok (.if_icmp .le 8, 3) := by decide +kernel
theorem dX9_distanceOf_85 : decode cX9_distanceOf 85 = .ok (.iload 6, 2) := by decide +kernel
theorem dX9_distanceOf_87 : decode cX9_distanceOf 87 = .ok (.goto 4, 3) := by decide +kernel
theorem dX9_distanceOf_90 : decode cX9_distanceOf 90 = .ok (.iload_n 3, 1) := by decide +kernel
theorem dX9_distanceOf_91 : decode cX9_distanceOf 91 = .ok (.istore_n 3, 1) := by decide +kernel
theorem dX9_distanceOf_92 : decode cX9_distanceOf 92 = .ok (.aload_n 0, 1) := by decide +kernel
theorem dX9_distanceOf_93 : decode cX9_distanceOf 93 = .ok (.iload_n 1, 1) := by decide +kernel
theorem dX9_distanceOf_94 : decode cX9_distanceOf 94 = .ok (.invokevirtual 114, 3) := by decide +kernel
theorem dX9_distanceOf_97 : decode cX9_distanceOf 97 = .ok (.bipush 9, 2) := by decide +kernel
theorem dX9_distanceOf_99 : decode cX9_distanceOf 99 = .ok (.if_icmp .ne 34, 3) := by decide +kernel
theorem dX9_distanceOf_102 : decode cX9_distanceOf 102 = .ok (.aload_n 0, 1) := by decide +kernel
theorem dX9_distanceOf_103 : decode cX9_distanceOf 103 = .ok (.iload_n 2, 1) := by decide +kernel
theorem dX9_distanceOf_104 : decode cX9_distanceOf 104 = .ok (.invokevirtual 114, 3) := by decide +kernel
theorem dX9_distanceOf_107 : decode cX9_distanceOf 107 = .ok (.bipush 9, 2) := by decide +kernel
theorem dX9_distanceOf_109 : decode cX9_distanceOf 109 = .ok (.if_icmp .eq 13, 3) := by decide +kernel
theorem dX9_distanceOf_112 : decode cX9_distanceOf 112 = .ok (.aload_n 0, 1) := by decide +kernel
theorem dX9_distanceOf_113 : decode cX9_distanceOf 113 = .ok (.iload_n 2, 1) := by decide +kernel
theorem dX9_distanceOf_114 : decode cX9_distanceOf 114 = .ok (.invokevirtual 114, 3) := by decide +kernel
theorem dX9_distanceOf_117 : decode cX9_distanceOf 117 = .ok (.bipush 8, 2) := by decide +kernel
theorem dX9_distanceOf_119 : decode cX9_distanceOf 119 = .ok (.if_icmp .ne 14, 3) := by decide +kernel
theorem dX9_distanceOf_122 : decode cX9_distanceOf 122 = .ok (.iload_n 3, 1) := by decide +kernel
theorem dX9_distanceOf_123 : decode cX9_distanceOf 123 = .ok (.iconst 1, 1) := by decide +kernel
theorem dX9_distanceOf_124 : decode cX9_distanceOf 124 = .ok (.if_icmp .ge 7, 3) := by decide +kernel
theorem dX9_distanceOf_127 : decode cX9_distanceOf 127 = .ok (.iconst 1, 1) := by decide +kernel
theorem dX9_distanceOf_128 : decode cX9_distanceOf 128 = .ok (.goto 4, 3) := by decide +kernel
theorem dX9_distanceOf_131 : decode cX9_distanceOf 131 = .ok (.iload_n 3, 1) := by decide +kernel
theorem dX9_distanceOf_132 : decode cX9_distanceOf 132 = .ok (.istore_n 3, 1) := by decide +kernel
theorem dX9_distanceOf_133 : decode cX9_distanceOf 133 = .ok (.iload 5, 2) := by decide +kernel
theorem dX9_distanceOf_135 : decode cX9_distanceOf 135 = .ok (.ifCond .lt 13, 3) := by decide +kernel
theorem dX9_distanceOf_138 : decode cX9_distanceOf 138 = .ok (.aload_n 0, 1) := by decide +kernel
theorem dX9_distanceOf_139 : decode cX9_distanceOf 139 = .ok (.iload_n 1, 1) := by decide +kernel
theorem dX9_distanceOf_140 : decode cX9_distanceOf 140 = .ok (.iload 5, 2) := by decide +kernel
theorem dX9_distanceOf_142 : decode cX9_distanceOf 142 = .ok (.invokevirtual 121, 3) := by decide +kernel
theorem dX9_distanceOf_145 : decode cX9_distanceOf 145 = .ok (.ifCond .ne 31, 3) := by decide +kernel
theorem dX9_distanceOf_148 : decode cX9_distanceOf 148 = .ok (.aload_n 0, 1) := by decide +kernel
theorem dX9_distanceOf_149 : decode cX9_distanceOf 149 = .ok (.iload_n 1, 1) := by decide +kernel
theorem dX9_distanceOf_150 : decode cX9_distanceOf 150 = .ok (.invokevirtual 114, 3) := by decide +kernel
theorem dX9_distanceOf_153 : decode cX9_distanceOf 153 = .ok (.bipush 8, 2) := by decide +kernel
theorem dX9_distanceOf_155 : decode cX9_distanceOf 155 = .ok (.if_icmp .ne 13, 3) := by decide +kernel
theorem dX9_distanceOf_158 : decode cX9_distanceOf 158 = .ok (.aload_n 0, 1) := by decide +kernel
theorem dX9_distanceOf_159 : decode cX9_distanceOf 159 = .ok (.iload_n 2, 1) := by decide +kernel
theorem dX9_distanceOf_160 : decode cX9_distanceOf 160 = .ok (.invokevirtual 114, 3) := by decide +kernel
theorem dX9_distanceOf_163 : decode cX9_distanceOf 163 = .ok (.bipush 9, 2) := by decide +kernel
theorem dX9_distanceOf_165 : decode cX9_distanceOf 165 = .ok (.if_icmp .eq 11, 3) := by decide +kernel
theorem dX9_distanceOf_168 : decode cX9_distanceOf 168 = .ok (.aload_n 0, 1) := by decide +kernel
theorem dX9_distanceOf_169 : decode cX9_distanceOf 169 = .ok (.iload_n 2, 1) := by decide +kernel
theorem dX9_distanceOf_170 : decode cX9_distanceOf 170 = .ok (.invokevirtual 128, 3) := by decide +kernel
theorem dX9_distanceOf_173 : decode cX9_distanceOf 173 = .ok (.ifCond .eq 7, 3) := by decide +kernel
theorem dX9_distanceOf_176 : decode cX9_distanceOf 176 = .ok (.iconst 1, 1) := by decide +kernel
theorem dX9_distanceOf_177 : decode cX9_distanceOf 177 = .ok (.goto 4, 3) := by decide +kernel
theorem dX9_distanceOf_180 : decode cX9_distanceOf 180 = .ok (.iconst 0, 1) := by decide +kernel
theorem dX9_distanceOf_181 : decode cX9_distanceOf 181 = .ok (.istore 6, 2) := by decide +kernel
theorem dX9_distanceOf_183 : decode cX9_distanceOf 183 = .ok (.iload 6, 2) := by decide +kernel
theorem dX9_distanceOf_185 : decode cX9_distanceOf 185 = .ok (.ifCond .eq 11, 3) := by decide +kernel
theorem dX9_distanceOf_188 : decode cX9_distanceOf 188 = .ok (.iload_n 3, 1) := by decide +kernel
theorem dX9_distanceOf_189 : decode cX9_distanceOf 189 = .ok (.ifCond .ge 7, 3) := by decide +kernel
theorem dX9_distanceOf_192 : decode cX9_distanceOf 192 = .ok (.iconst 0, 1) := by decide +kernel
theorem dX9_distanceOf_193 : decode cX9_distanceOf 193 = .ok (.goto 4, 3) := by decide +kernel
theorem dX9_distanceOf_196 : decode cX9_distanceOf 196 = .ok (.iload_n 3, 1) := by decide +kernel
theorem dX9_distanceOf_197 : decode cX9_distanceOf 197 = .ok (.ireturn, 1) := by decide +kernel
abbrev rm_X9_distanceOf : Room := { frames := 2, cells := 0, slots := 0, locals := 46 }
theorem w_X9_distanceOf_181 {X : gX} {σ : sg} {x3 : Int32} {t0 : Int32} {r0 : Int32} (C : gC X cX9_distanceOf 7 RX9 (some .int) rm_X9_distanceOf)  (hQ : gQ X (qI (XG X) r0 σ))  (hf : J_X9_distanceOf_181 σ x3 t0 = some r0) : G X 7 σ 181 [(3, .int x3)] [.int t0] := by
  unfold J_X9_distanceOf_181 at hf
  refine g_istore C (lv' := [(6, .int t0), (3, .int x3)]) dX9_distanceOf_181 (by decide) rfl ?_
  refine g_iload C 0 dX9_distanceOf_183 rfl ?_
  refine g_if_eq C 196 hf dX9_distanceOf_185 (by decide) (fun hf => ?_) (fun hf => ?_)
  · refine g_iload_n C 1 dX9_distanceOf_196 rfl ?_
    have e0 : r0 = x3 := (Option.some.inj hf).symm
    exact g_iret C rfl hQ (by rw [e0]) rfl dX9_distanceOf_197
  · refine g_iload_n C 1 dX9_distanceOf_188 rfl ?_
    refine g_if_ge C 196 hf dX9_distanceOf_189 (by decide) (fun hf => ?_) (fun hf => ?_)
    · refine g_iload_n C 1 dX9_distanceOf_196 rfl ?_
      have e0 : r0 = x3 := (Option.some.inj hf).symm
      exact g_iret C rfl hQ (by rw [e0]) rfl dX9_distanceOf_197
    · refine g_iconst C (v := 0) dX9_distanceOf_192 rfl ?_
      refine g_goto C 197 dX9_distanceOf_193 (by decide) ?_
      have e0 : r0 = (0 : Int32) := (Option.some.inj hf).symm
      exact g_iret C rfl hQ (by rw [e0]) rfl dX9_distanceOf_197
theorem w_X9_distanceOf_176 {X : gX} {σ : sg} {x3 : Int32} {r0 : Int32} (C : gC X cX9_distanceOf 7 RX9 (some .int) rm_X9_distanceOf)  (hQ : gQ X (qI (XG X) r0 σ))  (hf : J_X9_distanceOf_176 σ x3 = some r0) : G X 7 σ 176 [(3, .int x3)] [] := by
  unfold J_X9_distanceOf_176 at hf
  refine g_iconst C (v := 1) dX9_distanceOf_176 rfl ?_
  refine g_goto C 181 dX9_distanceOf_177 (by decide) ?_
  exact w_X9_distanceOf_181 C  hQ  hf
theorem w_X9_distanceOf_168 {X : gX} {σ : sg} {p2 : Int32} {x3 : Int32} {r0 : Int32} (C : gC X cX9_distanceOf 7 RX9 (some .int) rm_X9_distanceOf)  (hQ : gQ X (qI (XG X) r0 σ))  (hf : J_X9_distanceOf_168 σ p2 x3 = some r0) : G X 7 σ 168 [(0, .ref (Xd X 157)), (2, .int p2), (3, .int x3)] [] := by
  unfold J_X9_distanceOf_168 at hf
  refine g_aload_n C 0 dX9_distanceOf_168 rfl ?_
  refine g_iload_n C 1 dX9_distanceOf_169 rfl ?_
  obtain ⟨v170, h1, hf⟩ := g_bind hf
  refine g_callVi C 1 [.int p2] (c_X9_isExit (Xl X) (gC_I C)  h1) ⟨wml_836, wim_838, wsp_20, win_10, wcd_839⟩ (by decide) sh_157 vc_9 rfl hd_X9_isExit ⟨rfl, rfl⟩ ⟨Nat.le_of_ble_eq_true rfl, Nat.le_of_ble_eq_true rfl⟩ rfl rfl (Nat.le_of_ble_eq_true rfl) dX9_distanceOf_170 ?_
  clear h1
  refine g_if_eq C 180 hf dX9_distanceOf_173 (by decide) (fun hf => ?_) (fun hf => ?_)
  · refine g_iconst C (v := 0) dX9_distanceOf_180 rfl ?_
    refine g_sub [2] rfl ?_
    exact w_X9_distanceOf_181 C  hQ  hf
  · refine g_sub [2] rfl ?_
    exact w_X9_distanceOf_176 C  hQ  hf
theorem w_X9_distanceOf_148 {X : gX} {σ : sg} {p1 : Int32} {p2 : Int32} {x3 : Int32} {r0 : Int32} (C : gC X cX9_distanceOf 7 RX9 (some .int) rm_X9_distanceOf)  (hQ : gQ X (qI (XG X) r0 σ))  (hf : J_X9_distanceOf_148 σ p1 p2 x3 = some r0) : G X 7 σ 148 [(0, .ref (Xd X 157)), (1, .int p1), (2, .int p2), (3, .int x3)] [] := by
  unfold J_X9_distanceOf_148 at hf
  refine g_aload_n C 0 dX9_distanceOf_148 rfl ?_
  refine g_iload_n C 1 dX9_distanceOf_149 rfl ?_
  obtain ⟨v150, h1, hf⟩ := g_bind hf
  refine g_callVi C 1 [.int p1] (c_X9_operation (Xl X) (gC_I C)  h1) ⟨wml_824, wim_826, wsp_17, win_10, wcd_827⟩ (by decide) sh_157 vc_9 rfl hd_X9_operation ⟨rfl, rfl⟩ ⟨Nat.le_of_ble_eq_true rfl, Nat.le_of_ble_eq_true rfl⟩ rfl rfl (Nat.le_of_ble_eq_true rfl) dX9_distanceOf_150 ?_
  clear h1
  refine g_bipush C (v := 8) dX9_distanceOf_153 rfl ?_
  refine g_icmp_ne C 168 hf dX9_distanceOf_155 (by decide) (fun hf => ?_) (fun hf => ?_)
  · refine g_aload_n C 0 dX9_distanceOf_158 rfl ?_
    refine g_iload_n C 2 dX9_distanceOf_159 rfl ?_
    obtain ⟨v160, h1, hf⟩ := g_bind hf
    refine g_callVi C 1 [.int p2] (c_X9_operation (Xl X) (gC_I C)  h1) ⟨wml_824, wim_826, wsp_17, win_10, wcd_827⟩ (by decide) sh_157 vc_9 rfl hd_X9_operation ⟨rfl, rfl⟩ ⟨Nat.le_of_ble_eq_true rfl, Nat.le_of_ble_eq_true rfl⟩ rfl rfl (Nat.le_of_ble_eq_true rfl) dX9_distanceOf_160 ?_
    clear h1
    refine g_bipush C (v := 9) dX9_distanceOf_163 rfl ?_
    refine g_icmp_eq C 176 hf dX9_distanceOf_165 (by decide) (fun hf => ?_) (fun hf => ?_)
    · refine g_sub [3] rfl ?_
      exact w_X9_distanceOf_176 C  hQ  hf
    · refine g_sub [0, 2, 3] rfl ?_
      exact w_X9_distanceOf_168 C  hQ  hf
  · refine g_sub [0, 2, 3] rfl ?_
    exact w_X9_distanceOf_168 C  hQ  hf
theorem w_X9_distanceOf_133 {X : gX} {σ : sg} {p1 : Int32} {p2 : Int32} {x3 : Int32} {x5 : Int32} {r0 : Int32} (C : gC X cX9_distanceOf 7 RX9 (some .int) rm_X9_distanceOf)  (hQ : gQ X (qI (XG X) r0 σ))  (hf : J_X9_distanceOf_133 σ p1 p2 x3 x5 = some r0) : G X 7 σ 133 [(0, .ref (Xd X 157)), (1, .int p1), (2, .int p2), (3, .int x3), (5, .int x5)] [] := by
  unfold J_X9_distanceOf_133 at hf
  refine g_iload C 4 dX9_distanceOf_133 rfl ?_
  refine g_if_lt C 148 hf dX9_distanceOf_135 (by decide) (fun hf => ?_) (fun hf => ?_)
  · refine g_sub [0, 1, 2, 3] rfl ?_
    exact w_X9_distanceOf_148 C  hQ  hf
  · refine g_aload_n C 0 dX9_distanceOf_138 rfl ?_
    refine g_iload_n C 1 dX9_distanceOf_139 rfl ?_
    refine g_iload C 4 dX9_distanceOf_140 rfl ?_
    obtain ⟨v142, h1, hf⟩ := g_bind hf
    refine g_callVi C 2 [.int p1, .int x5] (c_X9_reads (Xl X) (gC_I C)  h1) ⟨wml_860, wim_862, wsp_23, win_10, wcd_863⟩ (by decide) sh_157 vc_9 rfl hd_X9_reads ⟨rfl, rfl⟩ ⟨Nat.le_of_ble_eq_true rfl, Nat.le_of_ble_eq_true rfl⟩ rfl rfl (Nat.le_of_ble_eq_true rfl) dX9_distanceOf_142 ?_
    clear h1
    refine g_if_ne C 176 hf dX9_distanceOf_145 (by decide) (fun hf => ?_) (fun hf => ?_)
    · refine g_sub [0, 1, 2, 3] rfl ?_
      exact w_X9_distanceOf_148 C  hQ  hf
    · refine g_sub [3] rfl ?_
      exact w_X9_distanceOf_176 C  hQ  hf
theorem w_X9_distanceOf_132 {X : gX} {σ : sg} {p1 : Int32} {p2 : Int32} {x5 : Int32} {t0 : Int32} {r0 : Int32} (C : gC X cX9_distanceOf 7 RX9 (some .int) rm_X9_distanceOf)  (hQ : gQ X (qI (XG X) r0 σ))  (hf : J_X9_distanceOf_132 σ p1 p2 x5 t0 = some r0) : G X 7 σ 132 [(0, .ref (Xd X 157)), (1, .int p1), (2, .int p2), (5, .int x5)] [.int t0] := by
  unfold J_X9_distanceOf_132 at hf
  refine g_istore_n C (lv' := [(3, .int t0), (0, .ref (Xd X 157)), (1, .int p1), (2, .int p2), (5, .int x5)]) dX9_distanceOf_132 (by decide) rfl ?_
  refine g_sub [1, 2, 3, 0, 4] rfl ?_
  exact w_X9_distanceOf_133 C  hQ  hf
theorem w_X9_distanceOf_122 {X : gX} {σ : sg} {p1 : Int32} {p2 : Int32} {x3 : Int32} {x5 : Int32} {r0 : Int32} (C : gC X cX9_distanceOf 7 RX9 (some .int) rm_X9_distanceOf)  (hQ : gQ X (qI (XG X) r0 σ))  (hf : J_X9_distanceOf_122 σ p1 p2 x3 x5 = some r0) : G X 7 σ 122 [(0, .ref (Xd X 157)), (1, .int p1), (2, .int p2), (3, .int x3), (5, .int x5)] [] := by
  unfold J_X9_distanceOf_122 at hf
  refine g_iload_n C 3 dX9_distanceOf_122 rfl ?_
  refine g_iconst C (v := 1) dX9_distanceOf_123 rfl ?_
  refine g_icmp_ge C 131 hf dX9_distanceOf_124 (by decide) (fun hf => ?_) (fun hf => ?_)
  · refine g_iload_n C 3 dX9_distanceOf_131 rfl ?_
    refine g_sub [0, 1, 2, 4] rfl ?_
    exact w_X9_distanceOf_132 C  hQ  hf
  · refine g_iconst C (v := 1) dX9_distanceOf_127 rfl ?_
    refine g_goto C 132 dX9_distanceOf_128 (by decide) ?_
    refine g_sub [0, 1, 2, 4] rfl ?_
    exact w_X9_distanceOf_132 C  hQ  hf
theorem w_X9_distanceOf_92 {X : gX} {σ : sg} {p1 : Int32} {p2 : Int32} {x3 : Int32} {x5 : Int32} {r0 : Int32} (C : gC X cX9_distanceOf 7 RX9 (some .int) rm_X9_distanceOf)  (hQ : gQ X (qI (XG X) r0 σ))  (hf : J_X9_distanceOf_92 σ p1 p2 x3 x5 = some r0) : G X 7 σ 92 [(0, .ref (Xd X 157)), (1, .int p1), (2, .int p2), (3, .int x3), (5, .int x5)] [] := by
  unfold J_X9_distanceOf_92 at hf
  refine g_aload_n C 0 dX9_distanceOf_92 rfl ?_
  refine g_iload_n C 1 dX9_distanceOf_93 rfl ?_
  obtain ⟨v94, h1, hf⟩ := g_bind hf
  refine g_callVi C 1 [.int p1] (c_X9_operation (Xl X) (gC_I C)  h1) ⟨wml_824, wim_826, wsp_17, win_10, wcd_827⟩ (by decide) sh_157 vc_9 rfl hd_X9_operation ⟨rfl, rfl⟩ ⟨Nat.le_of_ble_eq_true rfl, Nat.le_of_ble_eq_true rfl⟩ rfl rfl (Nat.le_of_ble_eq_true rfl) dX9_distanceOf_94 ?_
  clear h1
  refine g_bipush C (v := 9) dX9_distanceOf_97 rfl ?_
  refine g_icmp_ne C 133 hf dX9_distanceOf_99 (by decide) (fun hf => ?_) (fun hf => ?_)
  · refine g_aload_n C 0 dX9_distanceOf_102 rfl ?_
    refine g_iload_n C 2 dX9_distanceOf_103 rfl ?_
    obtain ⟨v104, h1, hf⟩ := g_bind hf
    refine g_callVi C 1 [.int p2] (c_X9_operation (Xl X) (gC_I C)  h1) ⟨wml_824, wim_826, wsp_17, win_10, wcd_827⟩ (by decide) sh_157 vc_9 rfl hd_X9_operation ⟨rfl, rfl⟩ ⟨Nat.le_of_ble_eq_true rfl, Nat.le_of_ble_eq_true rfl⟩ rfl rfl (Nat.le_of_ble_eq_true rfl) dX9_distanceOf_104 ?_
    clear h1
    refine g_bipush C (v := 9) dX9_distanceOf_107 rfl ?_
    refine g_icmp_eq C 122 hf dX9_distanceOf_109 (by decide) (fun hf => ?_) (fun hf => ?_)
    · exact w_X9_distanceOf_122 C  hQ  hf
    · refine g_aload_n C 0 dX9_distanceOf_112 rfl ?_
      refine g_iload_n C 2 dX9_distanceOf_113 rfl ?_
      obtain ⟨v114, h1, hf⟩ := g_bind hf
      refine g_callVi C 1 [.int p2] (c_X9_operation (Xl X) (gC_I C)  h1) ⟨wml_824, wim_826, wsp_17, win_10, wcd_827⟩ (by decide) sh_157 vc_9 rfl hd_X9_operation ⟨rfl, rfl⟩ ⟨Nat.le_of_ble_eq_true rfl, Nat.le_of_ble_eq_true rfl⟩ rfl rfl (Nat.le_of_ble_eq_true rfl) dX9_distanceOf_114 ?_
      clear h1
      refine g_bipush C (v := 8) dX9_distanceOf_117 rfl ?_
      refine g_icmp_ne C 133 hf dX9_distanceOf_119 (by decide) (fun hf => ?_) (fun hf => ?_)
      · exact w_X9_distanceOf_122 C  hQ  hf
      · exact w_X9_distanceOf_133 C  hQ  hf
  · exact w_X9_distanceOf_133 C  hQ  hf
theorem w_X9_distanceOf_91 {X : gX} {σ : sg} {p1 : Int32} {p2 : Int32} {x5 : Int32} {t0 : Int32} {r0 : Int32} (C : gC X cX9_distanceOf 7 RX9 (some .int) rm_X9_distanceOf)  (hQ : gQ X (qI (XG X) r0 σ))  (hf : J_X9_distanceOf_91 σ p1 p2 x5 t0 = some r0) : G X 7 σ 91 [(0, .ref (Xd X 157)), (1, .int p1), (2, .int p2), (5, .int x5)] [.int t0] := by
  unfold J_X9_distanceOf_91 at hf
  refine g_istore_n C (lv' := [(3, .int t0), (0, .ref (Xd X 157)), (1, .int p1), (2, .int p2), (5, .int x5)]) dX9_distanceOf_91 (by decide) rfl ?_
  refine g_sub [1, 2, 3, 0, 4] rfl ?_
  exact w_X9_distanceOf_92 C  hQ  hf
theorem w_X9_distanceOf_77 {X : gX} {σ : sg} {p1 : Int32} {p2 : Int32} {x3 : Int32} {x5 : Int32} {t0 : Int32} {r0 : Int32} (C : gC X cX9_distanceOf 7 RX9 (some .int) rm_X9_distanceOf)  (hQ : gQ X (qI (XG X) r0 σ))  (hf : J_X9_distanceOf_77 σ p1 p2 x3 x5 t0 = some r0) : G X 7 σ 77 [(0, .ref (Xd X 157)), (1, .int p1), (2, .int p2), (3, .int x3), (5, .int x5)] [.int t0] := by
  unfold J_X9_distanceOf_77 at hf
  refine g_istore C (lv' := [(6, .int t0), (0, .ref (Xd X 157)), (1, .int p1), (2, .int p2), (3, .int x3), (5, .int x5)]) dX9_distanceOf_77 (by decide) rfl ?_
  refine g_iload C 0 dX9_distanceOf_79 rfl ?_
  refine g_iload_n C 4 dX9_distanceOf_81 rfl ?_
  refine g_icmp_le C 90 hf dX9_distanceOf_82 (by decide) (fun hf => ?_) (fun hf => ?_)
  · refine g_iload_n C 4 dX9_distanceOf_90 rfl ?_
    refine g_sub [1, 2, 3, 5] rfl ?_
    exact w_X9_distanceOf_91 C  hQ  hf
  · refine g_iload C 0 dX9_distanceOf_85 rfl ?_
    refine g_goto C 91 dX9_distanceOf_87 (by decide) ?_
    refine g_sub [1, 2, 3, 5] rfl ?_
    exact w_X9_distanceOf_91 C  hQ  hf
theorem w_X9_distanceOf_38 {X : gX} {σ : sg} {p1 : Int32} {p2 : Int32} {x3 : Int32} {x4 : Int32} {x5 : Int32} {r0 : Int32} (C : gC X cX9_distanceOf 7 RX9 (some .int) rm_X9_distanceOf)  (hQ : gQ X (qI (XG X) r0 σ))  (hf : J_X9_distanceOf_38 σ p1 p2 x3 x4 x5 = some r0) : G X 7 σ 38 [(0, .ref (Xd X 157)), (1, .int p1), (2, .int p2), (3, .int x3), (4, .int x4), (5, .int x5)] [] := by
  unfold J_X9_distanceOf_38 at hf
  refine g_iload C 4 dX9_distanceOf_38 rfl ?_
  refine g_if_lt C 92 hf dX9_distanceOf_40 (by decide) (fun hf => ?_) (fun hf => ?_)
  · refine g_sub [0, 1, 2, 3, 5] rfl ?_
    exact w_X9_distanceOf_92 C  hQ  hf
  · refine g_iload C 4 dX9_distanceOf_43 rfl ?_
    refine g_iload C 5 dX9_distanceOf_45 rfl ?_
    refine g_icmp_ne C 92 hf dX9_distanceOf_47 (by decide) (fun hf => ?_) (fun hf => ?_)
    · refine g_aload_n C 0 dX9_distanceOf_50 rfl ?_
      refine g_iload_n C 1 dX9_distanceOf_51 rfl ?_
      obtain ⟨v52, h1, hf⟩ := g_bind hf
      refine g_callVi C 1 [.int p1] (c_X9_latency (Xl X) (gC_I C)  h1) ⟨wml_864, wim_866, wsp_24, win_10, wcd_867⟩ (by decide) sh_157 vc_9 rfl hd_X9_latency ⟨rfl, rfl⟩ ⟨Nat.le_of_ble_eq_true rfl, Nat.le_of_ble_eq_true rfl⟩ rfl rfl (Nat.le_of_ble_eq_true rfl) dX9_distanceOf_52 ?_
      clear h1
      refine g_aload_n C 0 dX9_distanceOf_55 rfl ?_
      refine g_iload_n C 2 dX9_distanceOf_56 rfl ?_
      obtain ⟨v57, h1, hf⟩ := g_bind hf
      refine g_callVi C 1 [.int p2] (c_X9_latency (Xl X) (gC_I C)  h1) ⟨wml_864, wim_866, wsp_24, win_10, wcd_867⟩ (by decide) sh_157 vc_9 rfl hd_X9_latency ⟨rfl, rfl⟩ ⟨Nat.le_of_ble_eq_true rfl, Nat.le_of_ble_eq_true rfl⟩ rfl rfl (Nat.le_of_ble_eq_true rfl) dX9_distanceOf_57 ?_
      clear h1
      refine g_isub C dX9_distanceOf_60 ?_
      refine g_iconst C (v := 1) dX9_distanceOf_61 rfl ?_
      refine g_iadd C dX9_distanceOf_62 ?_
      refine g_istore C (lv' := [(6, .int ((v52 - v57) + (1 : Int32))), (0, .ref (Xd X 157)), (1, .int p1), (2, .int p2), (3, .int x3), (4, .int x4), (5, .int x5)]) dX9_distanceOf_63 (by decide) rfl ?_
      refine g_iload C 0 dX9_distanceOf_65 rfl ?_
      refine g_iconst C (v := 1) dX9_distanceOf_67 rfl ?_
      refine g_icmp_ge C 75 hf dX9_distanceOf_68 (by decide) (fun hf => ?_) (fun hf => ?_)
      · refine g_iload C 0 dX9_distanceOf_75 rfl ?_
        refine g_sub [1, 2, 3, 4, 6] rfl ?_
        exact w_X9_distanceOf_77 C  hQ  hf
      · refine g_iconst C (v := 1) dX9_distanceOf_71 rfl ?_
        refine g_goto C 77 dX9_distanceOf_72 (by decide) ?_
        refine g_sub [1, 2, 3, 4, 6] rfl ?_
        exact w_X9_distanceOf_77 C  hQ  hf
    · refine g_sub [0, 1, 2, 3, 5] rfl ?_
      exact w_X9_distanceOf_92 C  hQ  hf
theorem w_X9_distanceOf_e {X : gX} {σ : sg} {p1 : Int32} {p2 : Int32} {r0 : Int32} (C : gC X cX9_distanceOf 7 RX9 (some .int) rm_X9_distanceOf)  (hQ : gQ X (qI (XG X) r0 σ)) (hf : f_X9_distanceOf σ p1 p2 = some r0) : G X 7 σ 0 [(0, .ref (Xd X 157)), (1, .int p1), (2, .int p2)] [] := by
  unfold f_X9_distanceOf at hf
  refine g_bipush C (v := (-4)) dX9_distanceOf_0 rfl ?_
  refine g_istore_n C (lv' := [(3, .int (-4 : Int32)), (0, .ref (Xd X 157)), (1, .int p1), (2, .int p2)]) dX9_distanceOf_2 (by decide) rfl ?_
  refine g_aload_n C 1 dX9_distanceOf_3 rfl ?_
  refine g_iload_n C 2 dX9_distanceOf_4 rfl ?_
  obtain ⟨v5, h1, hf⟩ := g_bind hf
  refine g_callVi C 1 [.int p1] (c_X9_written (Xl X) (gC_I C)  h1) ⟨wml_856, wim_858, wsp_22, win_10, wcd_859⟩ (by decide) sh_157 vc_9 rfl hd_X9_written ⟨rfl, rfl⟩ ⟨Nat.le_of_ble_eq_true rfl, Nat.le_of_ble_eq_true rfl⟩ rfl rfl (Nat.le_of_ble_eq_true rfl) dX9_distanceOf_5 ?_
  clear h1
  refine g_istore C (lv' := [(4, .int v5), (3, .int (-4 : Int32)), (0, .ref (Xd X 157)), (1, .int p1), (2, .int p2)]) dX9_distanceOf_8 (by decide) rfl ?_
  refine g_aload_n C 2 dX9_distanceOf_10 rfl ?_
  refine g_iload_n C 4 dX9_distanceOf_11 rfl ?_
  obtain ⟨v12, h1, hf⟩ := g_bind hf
  refine g_callVi C 1 [.int p2] (c_X9_written (Xl X) (gC_I C)  h1) ⟨wml_856, wim_858, wsp_22, win_10, wcd_859⟩ (by decide) sh_157 vc_9 rfl hd_X9_written ⟨rfl, rfl⟩ ⟨Nat.le_of_ble_eq_true rfl, Nat.le_of_ble_eq_true rfl⟩ rfl rfl (Nat.le_of_ble_eq_true rfl) dX9_distanceOf_12 ?_
  clear h1
  refine g_istore C (lv' := [(5, .int v12), (4, .int v5), (3, .int (-4 : Int32)), (0, .ref (Xd X 157)), (1, .int p1), (2, .int p2)]) dX9_distanceOf_15 (by decide) rfl ?_
  refine g_iload C 1 dX9_distanceOf_17 rfl ?_
  refine g_if_lt C 38 hf dX9_distanceOf_19 (by decide) (fun hf => ?_) (fun hf => ?_)
  · refine g_sub [3, 4, 5, 2, 1, 0] rfl ?_
    exact w_X9_distanceOf_38 C  hQ  hf
  · refine g_aload_n C 3 dX9_distanceOf_22 rfl ?_
    refine g_iload_n C 5 dX9_distanceOf_23 rfl ?_
    refine g_iload C 1 dX9_distanceOf_24 rfl ?_
    obtain ⟨v26, h1, hf⟩ := g_bind hf
    refine g_callVi C 2 [.int p2, .int v5] (c_X9_reads (Xl X) (gC_I C)  h1) ⟨wml_860, wim_862, wsp_23, win_10, wcd_863⟩ (by decide) sh_157 vc_9 rfl hd_X9_reads ⟨rfl, rfl⟩ ⟨Nat.le_of_ble_eq_true rfl, Nat.le_of_ble_eq_true rfl⟩ rfl rfl (Nat.le_of_ble_eq_true rfl) dX9_distanceOf_26 ?_
    clear h1
    refine g_if_eq C 38 hf dX9_distanceOf_29 (by decide) (fun hf => ?_) (fun hf => ?_)
    · refine g_sub [3, 4, 5, 2, 1, 0] rfl ?_
      exact w_X9_distanceOf_38 C  hQ  hf
    · refine g_aload_n C 3 dX9_distanceOf_32 rfl ?_
      refine g_iload_n C 4 dX9_distanceOf_33 rfl ?_
      obtain ⟨v34, h1, hf⟩ := g_bind hf
      refine g_callVi C 1 [.int p1] (c_X9_latency (Xl X) (gC_I C)  h1) ⟨wml_864, wim_866, wsp_24, win_10, wcd_867⟩ (by decide) sh_157 vc_9 rfl hd_X9_latency ⟨rfl, rfl⟩ ⟨Nat.le_of_ble_eq_true rfl, Nat.le_of_ble_eq_true rfl⟩ rfl rfl (Nat.le_of_ble_eq_true rfl) dX9_distanceOf_34 ?_
      clear h1
      refine g_istore_n C (lv' := [(3, .int v34), (5, .int v12), (4, .int v5), (0, .ref (Xd X 157)), (1, .int p1), (2, .int p2)]) dX9_distanceOf_37 (by decide) rfl ?_
      refine g_sub [3, 4, 5, 0, 2, 1] rfl ?_
      exact w_X9_distanceOf_38 C  hQ  hf
theorem c_X9_distanceOf (l : Launch) {Gw : gW} (hI : g_I Gw) {σ : sg} {p1 : Int32} {p2 : Int32} {r : Int32}  (hf : f_X9_distanceOf σ p1 p2 = some r) : gM l Gw yX9_distanceOf cX9_distanceOf 7 (some .int) rm_X9_distanceOf [.ref (Gw.2.2 157), .int p1, .int p2] σ (qI (Gw) r σ) := by
  refine g_met hI (by decide) (Nat.le_of_ble_eq_true rfl) (fun X h1 h2 C hQ => ?_)
  subst h1; subst h2
  exact w_X9_distanceOf_e C  hQ hf
