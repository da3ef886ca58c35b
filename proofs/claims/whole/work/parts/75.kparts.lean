/-! the constructors of the class's parts -/
theorem k_fold {E : Nat → va_E} {r : Nat} {e : va_E} {n : Nat} (h : E r = e) : ∀ q : Nat, q < n → k_up E r e q = E q := fun q _ => by
  by_cases e1 : q = r
  · subst e1
    rw [k_up_self, h]
  · rw [k_up_ne _ _ e1]
theorem shm_145 : g_sh 145 = .inl (4, [some 146, some 147]) := rfl
theorem shm_148 : g_sh 148 = .inl (4, [some 149, some 150]) := rfl
theorem shm_151 : g_sh 151 = .inl (4, [some 152, some 153]) := rfl
theorem dX6_init_0 : decode cX6_init 0 = .ok (.aload_n 0, 1) := by decide +kernel
theorem dX6_init_1 : decode cX6_init 1 = .ok (.invokespecial 3, 3) := by decide +kernel
theorem dX6_init_4 : decode cX6_init 4 = .ok (.aload_n 0, 1) := by decide +kernel
theorem dX6_init_5 : decode cX6_init 5 = .ok (.bipush 40, 2) := by decide +kernel
theorem dX6_init_7 : decode cX6_init 7 = .ok (.iconst 4, 1) := by decide +kernel
theorem dX6_init_8 : decode cX6_init 8 = .ok (.multianewarray 9 2, 4) := by decide +kernel
theorem dX6_init_12 : decode cX6_init 12 = .ok (.putfield 11, 3) := by decide +kernel
theorem dX6_init_15 : decode cX6_init 15 = .ok (.return_, 1) := by decide +kernel
theorem ks_kc_X6_1_2 : ∀ j, j < 40 → g_sh (2 + 1 + j) = .inr (0, 4, none) ∧ 2 + 1 + j ≠ 57 := by decide +kernel
def rk_X6_1 : Room := { frames := 1, cells := 41, slots := 200, locals := 12 }
theorem hdk_X6 : yX6_init.cls ≠ "java/lang/invoke/MethodHandle" ∧ yX6_init.cls ≠ "java/lang/invoke/VarHandle" ∧ (parseMethodDescriptor yX6_init.desc).map (fun d => d.parameters.length) = some 0 := by decide +kernel
theorem kc_X6_1 {l : Launch} {Gw : gW} (hI : kI Gw) {E : Nat → va_E} (hE : ∀ q, 1 < q → q < 43 → E q = kT Gw q) : kM l Gw yX6_init cX6_init 1 rk_X6_1 [.ref (Gw.2.2 1)] (k_up E 1 (.inr (6, [.null, .int 0]))) 2 (k_up E 1 (kT Gw 1)) 43 := by
  refine k_met hI (by decide +kernel) (Nat.le_of_ble_eq_true rfl) (fun X hG hXl C hnm hQ => ?_)
  subst hG
  refine k_aload_n C 0 dX6_init_0 rfl ?_
  refine k_objInit C wml_27 dX6_init_1 ⟨Nat.le_of_ble_eq_true rfl, Nat.le_of_ble_eq_true rfl⟩ ?_
  refine k_aload_n C 0 dX6_init_4 rfl ?_
  refine k_bipush (v := nI 40) C dX6_init_5 (by decide) ?_
  refine k_iconst (v := nI 4) C dX6_init_7 (by decide) ?_
  refine k_mna2 C 40 4 wcl_28 (by decide) (by decide) ⟨Nat.le_of_ble_eq_true rfl, Nat.le_of_ble_eq_true rfl⟩ dX6_init_8 (((k_up_ne _ _ (by decide)).trans (hE 2 (by decide) (by decide))).trans (kT_q (fun k => 2 + 1 + k) rfl (fun k => by simp [g_ch]))) (fun j hj => ((k_up_ne _ _ (by omega)).trans (hE _ (by omega) (by omega))).trans (kT_rows ks_kc_X6_1_2 _ j hj)) ?_
  refine k_putF C hnm 6 0 (by decide) vc_6 (by decide) tyX6 tyX6_ok nmX6 inXX6 wfl_30 rfl rfl (ty := .array (.array .int)) (by decide +kernel) rfl rfl (Nat.le_of_ble_eq_true rfl) (fs' := [.ref (Xd X 2), .int 0]) rfl dX6_init_12 ?_
  exact k_ret C hQ rfl (fun q _ => congrArg (fun e => k_up E 1 e q) (kT_o sh_1 rfl).symm) rfl rfl dX6_init_15
theorem dX3_init_0 : decode cX3_init 0 = .ok (.aload_n 0, 1) := by decide +kernel
theorem dX3_init_1 : decode cX3_init 1 = .ok (.invokespecial 3, 3) := by decide +kernel
theorem dX3_init_4 : decode cX3_init 4 = .ok (.aload_n 0, 1) := by decide +kernel
theorem dX3_init_5 : decode cX3_init 5 = .ok (.bipush 10, 2) := by decide +kernel
theorem dX3_init_7 : decode cX3_init 7 = .ok (.newarray .int, 2) := by decide +kernel
theorem dX3_init_9 : decode cX3_init 9 = .ok (.putfield 9, 3) := by decide +kernel
theorem dX3_init_12 : decode cX3_init 12 = .ok (.aload_n 0, 1) := by decide +kernel
theorem dX3_init_13 : decode cX3_init 13 = .ok (.bipush 10, 2) := by decide +kernel
theorem dX3_init_15 : decode cX3_init 15 = .ok (.newarray .int, 2) := by decide +kernel
theorem dX3_init_17 : decode cX3_init 17 = .ok (.putfield 15, 3) := by decide +kernel
theorem dX3_init_20 : decode cX3_init 20 = .ok (.aload_n 0, 1) := by decide +kernel
theorem dX3_init_21 : decode cX3_init 21 = .ok (.bipush 10, 2) := by decide +kernel
theorem dX3_init_23 : decode cX3_init 23 = .ok (.iconst 4, 1) := by decide +kernel
theorem dX3_init_24 : decode cX3_init 24 = .ok (.multianewarray 18 2, 4) := by decide +kernel
theorem dX3_init_28 : decode cX3_init 28 = .ok (.putfield 20, 3) := by decide +kernel
theorem dX3_init_31 : decode cX3_init 31 = .ok (.return_, 1) := by decide +kernel
theorem ks_kc_X3_43_46 : ∀ j, j < 10 → g_sh (46 + 1 + j) = .inr (0, 4, none) ∧ 46 + 1 + j ≠ 57 := by decide +kernel
def rk_X3_43 : Room := { frames := 1, cells := 13, slots := 70, locals := 12 }
theorem hdk_X3 : yX3_init.cls ≠ "java/lang/invoke/MethodHandle" ∧ yX3_init.cls ≠ "java/lang/invoke/VarHandle" ∧ (parseMethodDescriptor yX3_init.desc).map (fun d => d.parameters.length) = some 0 := by decide +kernel
theorem kc_X3_43 {l : Launch} {Gw : gW} (hI : kI Gw) {E : Nat → va_E} (hE : ∀ q, 43 < q → q < 57 → E q = kT Gw q) : kM l Gw yX3_init cX3_init 1 rk_X3_43 [.ref (Gw.2.2 43)] (k_up E 43 (.inr (3, [.null, .null, .null, .int 0, .int 0]))) 44 (k_up E 43 (kT Gw 43)) 57 := by
  refine k_met hI (by decide +kernel) (Nat.le_of_ble_eq_true rfl) (fun X hG hXl C hnm hQ => ?_)
  subst hG
  refine k_aload_n C 0 dX3_init_0 rfl ?_
  refine k_objInit C wml_49 dX3_init_1 ⟨Nat.le_of_ble_eq_true rfl, Nat.le_of_ble_eq_true rfl⟩ ?_
  refine k_aload_n C 0 dX3_init_4 rfl ?_
  refine k_bipush (v := nI 10) C dX3_init_5 (by decide) ?_
  refine k_newa (at' := .int) (ty := .int) C 0 10 rfl k_wai rfl (fun _ _ h => h) (((k_up_ne _ _ (by decide)).trans (hE 44 (by decide) (by decide))).trans (kT_z rfl (by decide))) rfl (by decide) (by decide) (by decide) dX3_init_7 ⟨Nat.le_of_ble_eq_true rfl, Nat.le_of_ble_eq_true rfl⟩ ?_
  refine k_putF C hnm 3 0 (by decide) vc_3 (by decide) tyX3 tyX3_ok nmX3 inXX3 wfl_51 rfl rfl (ty := .array .int) (by decide +kernel) rfl rfl (Nat.le_of_ble_eq_true rfl) (fs' := [.ref (Xd X 44), .null, .null, .int 0, .int 0]) rfl dX3_init_9 ?_
  refine k_aload_n C 0 dX3_init_12 rfl ?_
  refine k_bipush (v := nI 10) C dX3_init_13 (by decide) ?_
  refine k_newa (at' := .int) (ty := .int) C 0 10 rfl k_wai rfl (fun _ _ h => h) (((k_up_ne _ _ (by decide)).trans (hE 45 (by decide) (by decide))).trans (kT_z rfl (by decide))) rfl (by decide) (by decide) (by decide) dX3_init_15 ⟨Nat.le_of_ble_eq_true rfl, Nat.le_of_ble_eq_true rfl⟩ ?_
  refine k_putF C hnm 3 1 (by decide) vc_3 (by decide) tyX3 tyX3_ok nmX3 inXX3 wfl_52 rfl rfl (ty := .array .int) (by decide +kernel) rfl rfl (Nat.le_of_ble_eq_true rfl) (fs' := [.ref (Xd X 44), .ref (Xd X 45), .null, .int 0, .int 0]) rfl dX3_init_17 ?_
  refine k_aload_n C 0 dX3_init_20 rfl ?_
  refine k_bipush (v := nI 10) C dX3_init_21 (by decide) ?_
  refine k_iconst (v := nI 4) C dX3_init_23 (by decide) ?_
  refine k_mna2 C 10 4 wcl_50 (by decide) (by decide) ⟨Nat.le_of_ble_eq_true rfl, Nat.le_of_ble_eq_true rfl⟩ dX3_init_24 (((k_up_ne _ _ (by decide)).trans (hE 46 (by decide) (by decide))).trans (kT_q (fun k => 46 + 1 + k) rfl (fun k => by simp [g_ch]))) (fun j hj => ((k_up_ne _ _ (by omega)).trans (hE _ (by omega) (by omega))).trans (kT_rows ks_kc_X3_43_46 _ j hj)) ?_
  refine k_putF C hnm 3 2 (by decide) vc_3 (by decide) tyX3 tyX3_ok nmX3 inXX3 wfl_53 rfl rfl (ty := .array (.array .int)) (by decide +kernel) rfl rfl (Nat.le_of_ble_eq_true rfl) (fs' := [.ref (Xd X 44), .ref (Xd X 45), .ref (Xd X 46), .int 0, .int 0]) rfl dX3_init_28 ?_
  exact k_ret C hQ rfl (fun q _ => congrArg (fun e => k_up E 43 e q) (kT_o sh_43 rfl).symm) rfl rfl dX3_init_31
theorem dX1_init_0 : decode cX1_init 0 = .ok (.aload_n 0, 1) := by decide +kernel
theorem dX1_init_1 : decode cX1_init 1 = .ok (.invokespecial 3, 3) := by decide +kernel
theorem dX1_init_4 : decode cX1_init 4 = .ok (.aload_n 0, 1) := by decide +kernel
theorem dX1_init_5 : decode cX1_init 5 = .ok (.bipush 41, 2) := by decide +kernel
theorem dX1_init_7 : decode cX1_init 7 = .ok (.newarray .int, 2) := by decide +kernel
theorem dX1_init_9 : decode cX1_init 9 = .ok (.putfield 9, 3) := by decide +kernel
theorem dX1_init_12 : decode cX1_init 12 = .ok (.aload_n 0, 1) := by decide +kernel
theorem dX1_init_13 : decode cX1_init 13 = .ok (.bipush 40, 2) := by decide +kernel
theorem dX1_init_15 : decode cX1_init 15 = .ok (.newarray .int, 2) := by decide +kernel
theorem dX1_init_17 : decode cX1_init 17 = .ok (.putfield 15, 3) := by decide +kernel
theorem dX1_init_20 : decode cX1_init 20 = .ok (.aload_n 0, 1) := by decide +kernel
theorem dX1_init_21 : decode cX1_init 21 = .ok (.bipush 40, 2) := by decide +kernel
theorem dX1_init_23 : decode cX1_init 23 = .ok (.newarray .boolean, 2) := by decide +kernel
theorem dX1_init_25 : decode cX1_init 25 = .ok (.putfield 18, 3) := by decide +kernel
theorem dX1_init_28 : decode cX1_init 28 = .ok (.aload_n 0, 1) := by decide +kernel
theorem dX1_init_29 : decode cX1_init 29 = .ok (.iconst 1, 1) := by decide +kernel
theorem dX1_init_30 : decode cX1_init 30 = .ok (.putfield 22, 3) := by decide +kernel
theorem dX1_init_33 : decode cX1_init 33 = .ok (.return_, 1) := by decide +kernel
def rk_X1_57 : Room := { frames := 1, cells := 3, slots := 121, locals := 12 }
theorem hdk_X1 : yX1_init.cls ≠ "java/lang/invoke/MethodHandle" ∧ yX1_init.cls ≠ "java/lang/invoke/VarHandle" ∧ (parseMethodDescriptor yX1_init.desc).map (fun d => d.parameters.length) = some 0 := by decide +kernel
theorem kc_X1_57 {l : Launch} {Gw : gW} (hI : kI Gw) {E : Nat → va_E} (hE : ∀ q, 57 < q → q < 61 → E q = kT Gw q) : kM l Gw yX1_init cX1_init 1 rk_X1_57 [.ref (Gw.2.2 57)] (k_up E 57 (.inr (1, [.null, .null, .null, .int 0, .int 0]))) 58 (k_up E 57 (kT Gw 57)) 61 := by
  refine k_met hI (by decide +kernel) (Nat.le_of_ble_eq_true rfl) (fun X hG hXl C hnm hQ => ?_)
  subst hG
  refine k_aload_n C 0 dX1_init_0 rfl ?_
  refine k_objInit C wml_73 dX1_init_1 ⟨Nat.le_of_ble_eq_true rfl, Nat.le_of_ble_eq_true rfl⟩ ?_
  refine k_aload_n C 0 dX1_init_4 rfl ?_
  refine k_bipush (v := nI 41) C dX1_init_5 (by decide) ?_
  refine k_newa (at' := .int) (ty := .int) C 0 41 rfl k_wai rfl (fun _ _ h => h) (((k_up_ne _ _ (by decide)).trans (hE 58 (by decide) (by decide))).trans (kT_z rfl (by decide))) rfl (by decide) (by decide) (by decide) dX1_init_7 ⟨Nat.le_of_ble_eq_true rfl, Nat.le_of_ble_eq_true rfl⟩ ?_
  refine k_putF C hnm 1 0 (by decide) vc_1 (by decide) tyX1 tyX1_ok nmX1 inXX1 wfl_74 rfl rfl (ty := .array .int) (by decide +kernel) rfl rfl (Nat.le_of_ble_eq_true rfl) (fs' := [.ref (Xd X 58), .null, .null, .int 0, .int 0]) rfl dX1_init_9 ?_
  refine k_aload_n C 0 dX1_init_12 rfl ?_
  refine k_bipush (v := nI 40) C dX1_init_13 (by decide) ?_
  refine k_newa (at' := .int) (ty := .int) C 0 40 rfl k_wai rfl (fun _ _ h => h) (((k_up_ne _ _ (by decide)).trans (hE 59 (by decide) (by decide))).trans (kT_z rfl (by decide))) rfl (by decide) (by decide) (by decide) dX1_init_15 ⟨Nat.le_of_ble_eq_true rfl, Nat.le_of_ble_eq_true rfl⟩ ?_
  refine k_putF C hnm 1 1 (by decide) vc_1 (by decide) tyX1 tyX1_ok nmX1 inXX1 wfl_77 rfl rfl (ty := .array .int) (by decide +kernel) rfl rfl (Nat.le_of_ble_eq_true rfl) (fs' := [.ref (Xd X 58), .ref (Xd X 59), .null, .int 0, .int 0]) rfl dX1_init_17 ?_
  refine k_aload_n C 0 dX1_init_20 rfl ?_
  refine k_bipush (v := nI 40) C dX1_init_21 (by decide) ?_
  refine k_newa (at' := .boolean) (ty := .boolean) C 1 40 rfl k_waz rfl (fun _ _ h => h) (((k_up_ne _ _ (by decide)).trans (hE 60 (by decide) (by decide))).trans (kT_z rfl (by decide))) rfl (by decide) (by decide) (by decide) dX1_init_23 ⟨Nat.le_of_ble_eq_true rfl, Nat.le_of_ble_eq_true rfl⟩ ?_
  refine k_putF C hnm 1 2 (by decide) vc_1 (by decide) tyX1 tyX1_ok nmX1 inXX1 wfl_80 rfl rfl (ty := .array .boolean) (by decide +kernel) rfl rfl (Nat.le_of_ble_eq_true rfl) (fs' := [.ref (Xd X 58), .ref (Xd X 59), .ref (Xd X 60), .int 0, .int 0]) rfl dX1_init_25 ?_
  refine k_aload_n C 0 dX1_init_28 rfl ?_
  refine k_iconst (v := nI 1) C dX1_init_29 (by decide) ?_
  refine k_put C 1 4 (by decide) vc_1 (by decide) tyX1 tyX1_ok nmX1 inXX1 wfl_84 rfl (ty := .boolean) (by decide +kernel) rfl rfl (Nat.le_of_ble_eq_true rfl) (fs' := [.ref (Xd X 58), .ref (Xd X 59), .ref (Xd X 60), .int 0, .int 1]) rfl dX1_init_30 ?_
  exact k_ret C hQ rfl (fun q _ => congrArg (fun e => k_up E 57 e q) (kT_o sh_57 rfl).symm) rfl rfl dX1_init_33
theorem dX7_init_0 : decode cX7_init 0 = .ok (.aload_n 0, 1) := by decide +kernel
theorem dX7_init_1 : decode cX7_init 1 = .ok (.invokespecial 3, 3) := by decide +kernel
theorem dX7_init_4 : decode cX7_init 4 = .ok (.aload_n 0, 1) := by decide +kernel
theorem dX7_init_5 : decode cX7_init 5 = .ok (.bipush 8, 2) := by decide +kernel
theorem dX7_init_7 : decode cX7_init 7 = .ok (.iconst 3, 1) := by decide +kernel
theorem dX7_init_8 : decode cX7_init 8 = .ok (.multianewarray 9 2, 4) := by decide +kernel
theorem dX7_init_12 : decode cX7_init 12 = .ok (.putfield 11, 3) := by decide +kernel
theorem dX7_init_15 : decode cX7_init 15 = .ok (.aload_n 0, 1) := by decide +kernel
theorem dX7_init_16 : decode cX7_init 16 = .ok (.bipush 8, 2) := by decide +kernel
theorem dX7_init_18 : decode cX7_init 18 = .ok (.newarray .int, 2) := by decide +kernel
theorem dX7_init_20 : decode cX7_init 20 = .ok (.putfield 16, 3) := by decide +kernel
theorem dX7_init_23 : decode cX7_init 23 = .ok (.return_, 1) := by decide +kernel
theorem ks_kc_X7_61_62 : ∀ j, j < 8 → g_sh (62 + 1 + j) = .inr (0, 3, none) ∧ 62 + 1 + j ≠ 57 := by decide +kernel
def rk_X7_61 : Room := { frames := 1, cells := 10, slots := 40, locals := 12 }
theorem hdk_X7 : yX7_init.cls ≠ "java/lang/invoke/MethodHandle" ∧ yX7_init.cls ≠ "java/lang/invoke/VarHandle" ∧ (parseMethodDescriptor yX7_init.desc).map (fun d => d.parameters.length) = some 0 := by decide +kernel
theorem kc_X7_61 {l : Launch} {Gw : gW} (hI : kI Gw) {E : Nat → va_E} (hE : ∀ q, 61 < q → q < 72 → E q = kT Gw q) : kM l Gw yX7_init cX7_init 1 rk_X7_61 [.ref (Gw.2.2 61)] (k_up E 61 (.inr (7, [.null, .null, .int 0]))) 62 (k_up E 61 (kT Gw 61)) 72 := by
  refine k_met hI (by decide +kernel) (Nat.le_of_ble_eq_true rfl) (fun X hG hXl C hnm hQ => ?_)
  subst hG
  refine k_aload_n C 0 dX7_init_0 rfl ?_
  refine k_objInit C wml_103 dX7_init_1 ⟨Nat.le_of_ble_eq_true rfl, Nat.le_of_ble_eq_true rfl⟩ ?_
  refine k_aload_n C 0 dX7_init_4 rfl ?_
  refine k_bipush (v := nI 8) C dX7_init_5 (by decide) ?_
  refine k_iconst (v := nI 3) C dX7_init_7 (by decide) ?_
  refine k_mna2 C 8 3 wcl_104 (by decide) (by decide) ⟨Nat.le_of_ble_eq_true rfl, Nat.le_of_ble_eq_true rfl⟩ dX7_init_8 (((k_up_ne _ _ (by decide)).trans (hE 62 (by decide) (by decide))).trans (kT_q (fun k => 62 + 1 + k) rfl (fun k => by simp [g_ch]))) (fun j hj => ((k_up_ne _ _ (by omega)).trans (hE _ (by omega) (by omega))).trans (kT_rows ks_kc_X7_61_62 _ j hj)) ?_
  refine k_putF C hnm 7 0 (by decide) vc_7 (by decide) tyX7 tyX7_ok nmX7 inXX7 wfl_105 rfl rfl (ty := .array (.array .int)) (by decide +kernel) rfl rfl (Nat.le_of_ble_eq_true rfl) (fs' := [.ref (Xd X 62), .null, .int 0]) rfl dX7_init_12 ?_
  refine k_aload_n C 0 dX7_init_15 rfl ?_
  refine k_bipush (v := nI 8) C dX7_init_16 (by decide) ?_
  refine k_newa (at' := .int) (ty := .int) C 0 8 rfl k_wai rfl (fun _ _ h => h) (((k_up_ne _ _ (by decide)).trans (hE 71 (by decide) (by decide))).trans (kT_z rfl (by decide))) rfl (by decide) (by decide) (by decide) dX7_init_18 ⟨Nat.le_of_ble_eq_true rfl, Nat.le_of_ble_eq_true rfl⟩ ?_
  refine k_putF C hnm 7 1 (by decide) vc_7 (by decide) tyX7 tyX7_ok nmX7 inXX7 wfl_108 rfl rfl (ty := .array .int) (by decide +kernel) rfl rfl (Nat.le_of_ble_eq_true rfl) (fs' := [.ref (Xd X 62), .ref (Xd X 71), .int 0]) rfl dX7_init_20 ?_
  exact k_ret C hQ rfl (fun q _ => congrArg (fun e => k_up E 61 e q) (kT_o sh_61 rfl).symm) rfl rfl dX7_init_23
theorem dX2_init_0 : decode cX2_init 0 = .ok (.aload_n 0, 1) := by decide +kernel
theorem dX2_init_1 : decode cX2_init 1 = .ok (.invokespecial 3, 3) := by decide +kernel
theorem dX2_init_4 : decode cX2_init 4 = .ok (.aload_n 0, 1) := by decide +kernel
theorem dX2_init_5 : decode cX2_init 5 = .ok (.bipush 40, 2) := by decide +kernel
theorem dX2_init_7 : decode cX2_init 7 = .ok (.newarray .int, 2) := by decide +kernel
theorem dX2_init_9 : decode cX2_init 9 = .ok (.putfield 9, 3) := by decide +kernel
theorem dX2_init_12 : decode cX2_init 12 = .ok (.aload_n 0, 1) := by decide +kernel
theorem dX2_init_13 : decode cX2_init 13 = .ok (.iconst 3, 1) := by decide +kernel
theorem dX2_init_14 : decode cX2_init 14 = .ok (.newarray .int, 2) := by decide +kernel
theorem dX2_init_16 : decode cX2_init 16 = .ok (.putfield 15, 3) := by decide +kernel
theorem dX2_init_19 : decode cX2_init 19 = .ok (.aload_n 0, 1) := by decide +kernel
theorem dX2_init_20 : decode cX2_init 20 = .ok (.aload_n 1, 1) := by decide +kernel
theorem dX2_init_21 : decode cX2_init 21 = .ok (.putfield 18, 3) := by decide +kernel
theorem dX2_init_24 : decode cX2_init 24 = .ok (.aload_n 0, 1) := by decide +kernel
theorem dX2_init_25 : decode cX2_init 25 = .ok (.aload_n 2, 1) := by decide +kernel
theorem dX2_init_26 : decode cX2_init 26 = .ok (.putfield 22, 3) := by decide +kernel
theorem dX2_init_29 : decode cX2_init 29 = .ok (.return_, 1) := by decide +kernel
def rk_X2_72 : Room := { frames := 1, cells := 2, slots := 43, locals := 12 }
theorem hdk_X2 : yX2_init.cls ≠ "java/lang/invoke/MethodHandle" ∧ yX2_init.cls ≠ "java/lang/invoke/VarHandle" ∧ (parseMethodDescriptor yX2_init.desc).map (fun d => d.parameters.length) = some 2 := by decide +kernel
theorem kc_X2_72 {l : Launch} {Gw : gW} (hI : kI Gw) {E : Nat → va_E} (hE : ∀ q, 72 < q → q < 75 → E q = kT Gw q) : kM l Gw yX2_init cX2_init 3 rk_X2_72 [.ref (Gw.2.2 72), .ref (Gw.2.2 1), .ref (Gw.2.2 61)] (k_up E 72 (.inr (2, [.null, .null, .null, .null, .int 0, .int 0, .int 0, .int 0]))) 73 (k_up E 72 (kT Gw 72)) 75 := by
  refine k_met hI (by decide +kernel) (Nat.le_of_ble_eq_true rfl) (fun X hG hXl C hnm hQ => ?_)
  subst hG
  refine k_aload_n C 0 dX2_init_0 rfl ?_
  refine k_objInit C wml_125 dX2_init_1 ⟨Nat.le_of_ble_eq_true rfl, Nat.le_of_ble_eq_true rfl⟩ ?_
  refine k_aload_n C 0 dX2_init_4 rfl ?_
  refine k_bipush (v := nI 40) C dX2_init_5 (by decide) ?_
  refine k_newa (at' := .int) (ty := .int) C 0 40 rfl k_wai rfl (fun _ _ h => h) (((k_up_ne _ _ (by decide)).trans (hE 73 (by decide) (by decide))).trans (kT_z rfl (by decide))) rfl (by decide) (by decide) (by decide) dX2_init_7 ⟨Nat.le_of_ble_eq_true rfl, Nat.le_of_ble_eq_true rfl⟩ ?_
  refine k_putF C hnm 2 2 (by decide) vc_2 (by decide) tyX2 tyX2_ok nmX2 inXX2 wfl_129 rfl rfl (ty := .array .int) (by decide +kernel) rfl rfl (Nat.le_of_ble_eq_true rfl) (fs' := [.null, .null, .ref (Xd X 73), .null, .int 0, .int 0, .int 0, .int 0]) rfl dX2_init_9 ?_
  refine k_aload_n C 0 dX2_init_12 rfl ?_
  refine k_iconst (v := nI 3) C dX2_init_13 (by decide) ?_
  refine k_newa (at' := .int) (ty := .int) C 0 3 rfl k_wai rfl (fun _ _ h => h) (((k_up_ne _ _ (by decide)).trans (hE 74 (by decide) (by decide))).trans (kT_z rfl (by decide))) rfl (by decide) (by decide) (by decide) dX2_init_14 ⟨Nat.le_of_ble_eq_true rfl, Nat.le_of_ble_eq_true rfl⟩ ?_
  refine k_putF C hnm 2 3 (by decide) vc_2 (by decide) tyX2 tyX2_ok nmX2 inXX2 wfl_131 rfl rfl (ty := .array .int) (by decide +kernel) rfl rfl (Nat.le_of_ble_eq_true rfl) (fs' := [.null, .null, .ref (Xd X 73), .ref (Xd X 74), .int 0, .int 0, .int 0, .int 0]) rfl dX2_init_16 ?_
  refine k_aload_n C 0 dX2_init_19 rfl ?_
  refine k_aload_n C 1 dX2_init_20 rfl ?_
  refine k_putF C hnm 2 0 (by decide) vc_2 (by decide) tyX2 tyX2_ok nmX2 inXX2 wfl_126 rfl rfl (ty := .object "SlotBundler$Program") (by decide +kernel) rfl rfl (Nat.le_of_ble_eq_true rfl) (fs' := [.ref (Xd X 1), .null, .ref (Xd X 73), .ref (Xd X 74), .int 0, .int 0, .int 0, .int 0]) rfl dX2_init_21 ?_
  refine k_aload_n C 0 dX2_init_24 rfl ?_
  refine k_aload_n C 2 dX2_init_25 rfl ?_
  refine k_putF C hnm 2 1 (by decide) vc_2 (by decide) tyX2 tyX2_ok nmX2 inXX2 wfl_127 rfl rfl (ty := .object "SlotBundler$Templates") (by decide +kernel) rfl rfl (Nat.le_of_ble_eq_true rfl) (fs' := [.ref (Xd X 1), .ref (Xd X 61), .ref (Xd X 73), .ref (Xd X 74), .int 0, .int 0, .int 0, .int 0]) rfl dX2_init_26 ?_
  exact k_ret C hQ rfl (fun q _ => congrArg (fun e => k_up E 72 e q) (kT_o sh_72 rfl).symm) rfl rfl dX2_init_29
theorem dX5_init_0 : decode cX5_init 0 = .ok (.aload_n 0, 1) := by decide +kernel
theorem dX5_init_1 : decode cX5_init 1 = .ok (.invokespecial 3, 3) := by decide +kernel
theorem dX5_init_4 : decode cX5_init 4 = .ok (.aload_n 0, 1) := by decide +kernel
theorem dX5_init_5 : decode cX5_init 5 = .ok (.bipush 60, 2) := by decide +kernel
theorem dX5_init_7 : decode cX5_init 7 = .ok (.iconst 3, 1) := by decide +kernel
theorem dX5_init_8 : decode cX5_init 8 = .ok (.multianewarray 9 2, 4) := by decide +kernel
theorem dX5_init_12 : decode cX5_init 12 = .ok (.putfield 11, 3) := by decide +kernel
theorem dX5_init_15 : decode cX5_init 15 = .ok (.aload_n 0, 1) := by decide +kernel
theorem dX5_init_16 : decode cX5_init 16 = .ok (.bipush 60, 2) := by decide +kernel
theorem dX5_init_18 : decode cX5_init 18 = .ok (.newarray .int, 2) := by decide +kernel
theorem dX5_init_20 : decode cX5_init 20 = .ok (.putfield 16, 3) := by decide +kernel
theorem dX5_init_23 : decode cX5_init 23 = .ok (.aload_n 0, 1) := by decide +kernel
theorem dX5_init_24 : decode cX5_init 24 = .ok (.bipush 60, 2) := by decide +kernel
theorem dX5_init_26 : decode cX5_init 26 = .ok (.newarray .int, 2) := by decide +kernel
theorem dX5_init_28 : decode cX5_init 28 = .ok (.putfield 20, 3) := by decide +kernel
theorem dX5_init_31 : decode cX5_init 31 = .ok (.aload_n 0, 1) := by decide +kernel
theorem dX5_init_32 : decode cX5_init 32 = .ok (.bipush 40, 2) := by decide +kernel
theorem dX5_init_34 : decode cX5_init 34 = .ok (.newarray .int, 2) := by decide +kernel
theorem dX5_init_36 : decode cX5_init 36 = .ok (.putfield 23, 3) := by decide +kernel
theorem dX5_init_39 : decode cX5_init 39 = .ok (.aload_n 0, 1) := by decide +kernel
theorem dX5_init_40 : decode cX5_init 40 = .ok (.bipush 40, 2) := by decide +kernel
theorem dX5_init_42 : decode cX5_init 42 = .ok (.newarray .int, 2) := by decide +kernel
theorem dX5_init_44 : decode cX5_init 44 = .ok (.putfield 26, 3) := by decide +kernel
theorem dX5_init_47 : decode cX5_init 47 = .ok (.aload_n 0, 1) := by decide +kernel
theorem dX5_init_48 : decode cX5_init 48 = .ok (.bipush 40, 2) := by decide +kernel
theorem dX5_init_50 : decode cX5_init 50 = .ok (.newarray .int, 2) := by decide +kernel
theorem dX5_init_52 : decode cX5_init 52 = .ok (.putfield 29, 3) := by decide +kernel
theorem dX5_init_55 : decode cX5_init 55 = .ok (.aload_n 0, 1) := by decide +kernel
theorem dX5_init_56 : decode cX5_init 56 = .ok (.bipush 40, 2) := by decide +kernel
theorem dX5_init_58 : decode cX5_init 58 = .ok (.newarray .int, 2) := by decide +kernel
theorem dX5_init_60 : decode cX5_init 60 = .ok (.putfield 32, 3) := by decide +kernel
theorem dX5_init_63 : decode cX5_init 63 = .ok (.aload_n 0, 1) := by decide +kernel
theorem dX5_init_64 : decode cX5_init 64 = .ok (.bipush 40, 2) := by decide +kernel
theorem dX5_init_66 : decode cX5_init 66 = .ok (.newarray .int, 2) := by decide +kernel
theorem dX5_init_68 : decode cX5_init 68 = .ok (.putfield 35, 3) := by decide +kernel
theorem dX5_init_71 : decode cX5_init 71 = .ok (.aload_n 0, 1) := by decide +kernel
theorem dX5_init_72 : decode cX5_init 72 = .ok (.bipush 100, 2) := by decide +kernel
theorem dX5_init_74 : decode cX5_init 74 = .ok (.newarray .int, 2) := by decide +kernel
theorem dX5_init_76 : decode cX5_init 76 = .ok (.putfield 38, 3) := by decide +kernel
theorem dX5_init_79 : decode cX5_init 79 = .ok (.aload_n 0, 1) := by decide +kernel
theorem dX5_init_80 : decode cX5_init 80 = .ok (.aload_n 1, 1) := by decide +kernel
theorem dX5_init_81 : decode cX5_init 81 = .ok (.putfield 41, 3) := by decide +kernel
theorem dX5_init_84 : decode cX5_init 84 = .ok (.return_, 1) := by decide +kernel
theorem ks_kc_X5_75_76 : ∀ j, j < 60 → g_sh (76 + 1 + j) = .inr (0, 3, none) ∧ 76 + 1 + j ≠ 57 := by decide +kernel
def rk_X5_75 : Room := { frames := 1, cells := 69, slots := 660, locals := 12 }
theorem hdk_X5 : yX5_init.cls ≠ "java/lang/invoke/MethodHandle" ∧ yX5_init.cls ≠ "java/lang/invoke/VarHandle" ∧ (parseMethodDescriptor yX5_init.desc).map (fun d => d.parameters.length) = some 1 := by decide +kernel
theorem kc_X5_75 {l : Launch} {Gw : gW} (hI : kI Gw) {E : Nat → va_E} (hE : ∀ q, 75 < q → q < 145 → E q = kT Gw q) : kM l Gw yX5_init cX5_init 2 rk_X5_75 [.ref (Gw.2.2 75), .ref (Gw.2.2 1)] (k_up E 75 (.inr (5, [.null, .null, .null, .null, .null, .null, .null, .null, .null, .null, .int 0, .int 0, .int 0]))) 76 (k_up E 75 (kT Gw 75)) 145 := by
  refine k_met hI (by decide +kernel) (Nat.le_of_ble_eq_true rfl) (fun X hG hXl C hnm hQ => ?_)
  subst hG
  refine k_aload_n C 0 dX5_init_0 rfl ?_
  refine k_objInit C wml_166 dX5_init_1 ⟨Nat.le_of_ble_eq_true rfl, Nat.le_of_ble_eq_true rfl⟩ ?_
  refine k_aload_n C 0 dX5_init_4 rfl ?_
  refine k_bipush (v := nI 60) C dX5_init_5 (by decide) ?_
  refine k_iconst (v := nI 3) C dX5_init_7 (by decide) ?_
  refine k_mna2 C 60 3 wcl_167 (by decide) (by decide) ⟨Nat.le_of_ble_eq_true rfl, Nat.le_of_ble_eq_true rfl⟩ dX5_init_8 (((k_up_ne _ _ (by decide)).trans (hE 76 (by decide) (by decide))).trans (kT_q (fun k => 76 + 1 + k) rfl (fun k => by simp [g_ch]))) (fun j hj => ((k_up_ne _ _ (by omega)).trans (hE _ (by omega) (by omega))).trans (kT_rows ks_kc_X5_75_76 _ j hj)) ?_
  refine k_putF C hnm 5 1 (by decide) vc_5 (by decide) tyX5 tyX5_ok nmX5 inXX5 wfl_169 rfl rfl (ty := .array (.array .int)) (by decide +kernel) rfl rfl (Nat.le_of_ble_eq_true rfl) (fs' := [.null, .ref (Xd X 76), .null, .null, .null, .null, .null, .null, .null, .null, .int 0, .int 0, .int 0]) rfl dX5_init_12 ?_
  refine k_aload_n C 0 dX5_init_15 rfl ?_
  refine k_bipush (v := nI 60) C dX5_init_16 (by decide) ?_
  refine k_newa (at' := .int) (ty := .int) C 0 60 rfl k_wai rfl (fun _ _ h => h) (((k_up_ne _ _ (by decide)).trans (hE 137 (by decide) (by decide))).trans (kT_z rfl (by decide))) rfl (by decide) (by decide) (by decide) dX5_init_18 ⟨Nat.le_of_ble_eq_true rfl, Nat.le_of_ble_eq_true rfl⟩ ?_
  refine k_putF C hnm 5 2 (by decide) vc_5 (by decide) tyX5 tyX5_ok nmX5 inXX5 wfl_171 rfl rfl (ty := .array .int) (by decide +kernel) rfl rfl (Nat.le_of_ble_eq_true rfl) (fs' := [.null, .ref (Xd X 76), .ref (Xd X 137), .null, .null, .null, .null, .null, .null, .null, .int 0, .int 0, .int 0]) rfl dX5_init_20 ?_
  refine k_aload_n C 0 dX5_init_23 rfl ?_
  refine k_bipush (v := nI 60) C dX5_init_24 (by decide) ?_
  refine k_newa (at' := .int) (ty := .int) C 0 60 rfl k_wai rfl (fun _ _ h => h) (((k_up_ne _ _ (by decide)).trans (hE 138 (by decide) (by decide))).trans (kT_z rfl (by decide))) rfl (by decide) (by decide) (by decide) dX5_init_26 ⟨Nat.le_of_ble_eq_true rfl, Nat.le_of_ble_eq_true rfl⟩ ?_
  refine k_putF C hnm 5 3 (by decide) vc_5 (by decide) tyX5 tyX5_ok nmX5 inXX5 wfl_173 rfl rfl (ty := .array .int) (by decide +kernel) rfl rfl (Nat.le_of_ble_eq_true rfl) (fs' := [.null, .ref (Xd X 76), .ref (Xd X 137), .ref (Xd X 138), .null, .null, .null, .null, .null, .null, .int 0, .int 0, .int 0]) rfl dX5_init_28 ?_
  refine k_aload_n C 0 dX5_init_31 rfl ?_
  refine k_bipush (v := nI 40) C dX5_init_32 (by decide) ?_
  refine k_newa (at' := .int) (ty := .int) C 0 40 rfl k_wai rfl (fun _ _ h => h) (((k_up_ne _ _ (by decide)).trans (hE 139 (by decide) (by decide))).trans (kT_z rfl (by decide))) rfl (by decide) (by decide) (by decide) dX5_init_34 ⟨Nat.le_of_ble_eq_true rfl, Nat.le_of_ble_eq_true rfl⟩ ?_
  refine k_putF C hnm 5 4 (by decide) vc_5 (by decide) tyX5 tyX5_ok nmX5 inXX5 wfl_175 rfl rfl (ty := .array .int) (by decide +kernel) rfl rfl (Nat.le_of_ble_eq_true rfl) (fs' := [.null, .ref (Xd X 76), .ref (Xd X 137), .ref (Xd X 138), .ref (Xd X 139), .null, .null, .null, .null, .null, .int 0, .int 0, .int 0]) rfl dX5_init_36 ?_
  refine k_aload_n C 0 dX5_init_39 rfl ?_
  refine k_bipush (v := nI 40) C dX5_init_40 (by decide) ?_
  refine k_newa (at' := .int) (ty := .int) C 0 40 rfl k_wai rfl (fun _ _ h => h) (((k_up_ne _ _ (by decide)).trans (hE 140 (by decide) (by decide))).trans (kT_z rfl (by decide))) rfl (by decide) (by decide) (by decide) dX5_init_42 ⟨Nat.le_of_ble_eq_true rfl, Nat.le_of_ble_eq_true rfl⟩ ?_
  refine k_putF C hnm 5 5 (by decide) vc_5 (by decide) tyX5 tyX5_ok nmX5 inXX5 wfl_177 rfl rfl (ty := .array .int) (by decide +kernel) rfl rfl (Nat.le_of_ble_eq_true rfl) (fs' := [.null, .ref (Xd X 76), .ref (Xd X 137), .ref (Xd X 138), .ref (Xd X 139), .ref (Xd X 140), .null, .null, .null, .null, .int 0, .int 0, .int 0]) rfl dX5_init_44 ?_
  refine k_aload_n C 0 dX5_init_47 rfl ?_
  refine k_bipush (v := nI 40) C dX5_init_48 (by decide) ?_
  refine k_newa (at' := .int) (ty := .int) C 0 40 rfl k_wai rfl (fun _ _ h => h) (((k_up_ne _ _ (by decide)).trans (hE 141 (by decide) (by decide))).trans (kT_z rfl (by decide))) rfl (by decide) (by decide) (by decide) dX5_init_50 ⟨Nat.le_of_ble_eq_true rfl, Nat.le_of_ble_eq_true rfl⟩ ?_
  refine k_putF C hnm 5 6 (by decide) vc_5 (by decide) tyX5 tyX5_ok nmX5 inXX5 wfl_179 rfl rfl (ty := .array .int) (by decide +kernel) rfl rfl (Nat.le_of_ble_eq_true rfl) (fs' := [.null, .ref (Xd X 76), .ref (Xd X 137), .ref (Xd X 138), .ref (Xd X 139), .ref (Xd X 140), .ref (Xd X 141), .null, .null, .null, .int 0, .int 0, .int 0]) rfl dX5_init_52 ?_
  refine k_aload_n C 0 dX5_init_55 rfl ?_
  refine k_bipush (v := nI 40) C dX5_init_56 (by decide) ?_
  refine k_newa (at' := .int) (ty := .int) C 0 40 rfl k_wai rfl (fun _ _ h => h) (((k_up_ne _ _ (by decide)).trans (hE 142 (by decide) (by decide))).trans (kT_z rfl (by decide))) rfl (by decide) (by decide) (by decide) dX5_init_58 ⟨Nat.le_of_ble_eq_true rfl, Nat.le_of_ble_eq_true rfl⟩ ?_
  refine k_putF C hnm 5 7 (by decide) vc_5 (by decide) tyX5 tyX5_ok nmX5 inXX5 wfl_182 rfl rfl (ty := .array .int) (by decide +kernel) rfl rfl (Nat.le_of_ble_eq_true rfl) (fs' := [.null, .ref (Xd X 76), .ref (Xd X 137), .ref (Xd X 138), .ref (Xd X 139), .ref (Xd X 140), .ref (Xd X 141), .ref (Xd X 142), .null, .null, .int 0, .int 0, .int 0]) rfl dX5_init_60 ?_
  refine k_aload_n C 0 dX5_init_63 rfl ?_
  refine k_bipush (v := nI 40) C dX5_init_64 (by decide) ?_
  refine k_newa (at' := .int) (ty := .int) C 0 40 rfl k_wai rfl (fun _ _ h => h) (((k_up_ne _ _ (by decide)).trans (hE 143 (by decide) (by decide))).trans (kT_z rfl (by decide))) rfl (by decide) (by decide) (by decide) dX5_init_66 ⟨Nat.le_of_ble_eq_true rfl, Nat.le_of_ble_eq_true rfl⟩ ?_
  refine k_putF C hnm 5 8 (by decide) vc_5 (by decide) tyX5 tyX5_ok nmX5 inXX5 wfl_185 rfl rfl (ty := .array .int) (by decide +kernel) rfl rfl (Nat.le_of_ble_eq_true rfl) (fs' := [.null, .ref (Xd X 76), .ref (Xd X 137), .ref (Xd X 138), .ref (Xd X 139), .ref (Xd X 140), .ref (Xd X 141), .ref (Xd X 142), .ref (Xd X 143), .null, .int 0, .int 0, .int 0]) rfl dX5_init_68 ?_
  refine k_aload_n C 0 dX5_init_71 rfl ?_
  refine k_bipush (v := nI 100) C dX5_init_72 (by decide) ?_
  refine k_newa (at' := .int) (ty := .int) C 0 100 rfl k_wai rfl (fun _ _ h => h) (((k_up_ne _ _ (by decide)).trans (hE 144 (by decide) (by decide))).trans (kT_z rfl (by decide))) rfl (by decide) (by decide) (by decide) dX5_init_74 ⟨Nat.le_of_ble_eq_true rfl, Nat.le_of_ble_eq_true rfl⟩ ?_
  refine k_putF C hnm 5 9 (by decide) vc_5 (by decide) tyX5 tyX5_ok nmX5 inXX5 wfl_187 rfl rfl (ty := .array .int) (by decide +kernel) rfl rfl (Nat.le_of_ble_eq_true rfl) (fs' := [.null, .ref (Xd X 76), .ref (Xd X 137), .ref (Xd X 138), .ref (Xd X 139), .ref (Xd X 140), .ref (Xd X 141), .ref (Xd X 142), .ref (Xd X 143), .ref (Xd X 144), .int 0, .int 0, .int 0]) rfl dX5_init_76 ?_
  refine k_aload_n C 0 dX5_init_79 rfl ?_
  refine k_aload_n C 1 dX5_init_80 rfl ?_
  refine k_putF C hnm 5 0 (by decide) vc_5 (by decide) tyX5 tyX5_ok nmX5 inXX5 wfl_168 rfl rfl (ty := .object "SlotBundler$Program") (by decide +kernel) rfl rfl (Nat.le_of_ble_eq_true rfl) (fs' := [.ref (Xd X 1), .ref (Xd X 76), .ref (Xd X 137), .ref (Xd X 138), .ref (Xd X 139), .ref (Xd X 140), .ref (Xd X 141), .ref (Xd X 142), .ref (Xd X 143), .ref (Xd X 144), .int 0, .int 0, .int 0]) rfl dX5_init_81 ?_
  exact k_ret C hQ rfl (fun q _ => congrArg (fun e => k_up E 75 e q) (kT_o sh_75 rfl).symm) rfl rfl dX5_init_84
theorem dX4_init_0 : decode cX4_init 0 = .ok (.aload_n 0, 1) := by decide +kernel
theorem dX4_init_1 : decode cX4_init 1 = .ok (.invokespecial 3, 3) := by decide +kernel
theorem dX4_init_4 : decode cX4_init 4 = .ok (.aload_n 0, 1) := by decide +kernel
theorem dX4_init_5 : decode cX4_init 5 = .ok (.bipush 8, 2) := by decide +kernel
theorem dX4_init_7 : decode cX4_init 7 = .ok (.newarray .int, 2) := by decide +kernel
theorem dX4_init_9 : decode cX4_init 9 = .ok (.putfield 9, 3) := by decide +kernel
theorem dX4_init_12 : decode cX4_init 12 = .ok (.aload_n 0, 1) := by decide +kernel
theorem dX4_init_13 : decode cX4_init 13 = .ok (.bipush 16, 2) := by decide +kernel
theorem dX4_init_15 : decode cX4_init 15 = .ok (.newarray .int, 2) := by decide +kernel
theorem dX4_init_17 : decode cX4_init 17 = .ok (.putfield 15, 3) := by decide +kernel
theorem dX4_init_20 : decode cX4_init 20 = .ok (.return_, 1) := by decide +kernel
def rk_X4_145 : Room := { frames := 1, cells := 2, slots := 24, locals := 12 }
theorem hdk_X4 : yX4_init.cls ≠ "java/lang/invoke/MethodHandle" ∧ yX4_init.cls ≠ "java/lang/invoke/VarHandle" ∧ (parseMethodDescriptor yX4_init.desc).map (fun d => d.parameters.length) = some 0 := by decide +kernel
theorem kc_X4_145 {l : Launch} {Gw : gW} (hI : kI Gw) {E : Nat → va_E} (hE : ∀ q, 145 < q → q < 148 → E q = kT Gw q) : kM l Gw yX4_init cX4_init 1 rk_X4_145 [.ref (Gw.2.2 145)] (k_up E 145 (.inr (4, [.null, .null]))) 146 (k_up E 145 (kT Gw 145)) 148 := by
  refine k_met hI (by decide +kernel) (Nat.le_of_ble_eq_true rfl) (fun X hG hXl C hnm hQ => ?_)
  subst hG
  refine k_aload_n C 0 dX4_init_0 rfl ?_
  refine k_objInit C wml_227 dX4_init_1 ⟨Nat.le_of_ble_eq_true rfl, Nat.le_of_ble_eq_true rfl⟩ ?_
  refine k_aload_n C 0 dX4_init_4 rfl ?_
  refine k_bipush (v := nI 8) C dX4_init_5 (by decide) ?_
  refine k_newa (at' := .int) (ty := .int) C 0 8 rfl k_wai rfl (fun _ _ h => h) (((k_up_ne _ _ (by decide)).trans (hE 146 (by decide) (by decide))).trans (kT_z rfl (by decide))) rfl (by decide) (by decide) (by decide) dX4_init_7 ⟨Nat.le_of_ble_eq_true rfl, Nat.le_of_ble_eq_true rfl⟩ ?_
  refine k_putF C hnm 4 0 (by decide) vc_4 (by decide) tyX4 tyX4_ok nmX4 inXX4 wfl_228 rfl rfl (ty := .array .int) (by decide +kernel) rfl rfl (Nat.le_of_ble_eq_true rfl) (fs' := [.ref (Xd X 146), .null]) rfl dX4_init_9 ?_
  refine k_aload_n C 0 dX4_init_12 rfl ?_
  refine k_bipush (v := nI 16) C dX4_init_13 (by decide) ?_
  refine k_newa (at' := .int) (ty := .int) C 0 16 rfl k_wai rfl (fun _ _ h => h) (((k_up_ne _ _ (by decide)).trans (hE 147 (by decide) (by decide))).trans (kT_z rfl (by decide))) rfl (by decide) (by decide) (by decide) dX4_init_15 ⟨Nat.le_of_ble_eq_true rfl, Nat.le_of_ble_eq_true rfl⟩ ?_
  refine k_putF C hnm 4 1 (by decide) vc_4 (by decide) tyX4 tyX4_ok nmX4 inXX4 wfl_230 rfl rfl (ty := .array .int) (by decide +kernel) rfl rfl (Nat.le_of_ble_eq_true rfl) (fs' := [.ref (Xd X 146), .ref (Xd X 147)]) rfl dX4_init_17 ?_
  exact k_ret C hQ rfl (fun q _ => congrArg (fun e => k_up E 145 e q) (kT_o shm_145 rfl).symm) rfl rfl dX4_init_20
def rk_X4_148 : Room := { frames := 1, cells := 2, slots := 24, locals := 12 }
theorem kc_X4_148 {l : Launch} {Gw : gW} (hI : kI Gw) {E : Nat → va_E} (hE : ∀ q, 148 < q → q < 151 → E q = kT Gw q) : kM l Gw yX4_init cX4_init 1 rk_X4_148 [.ref (Gw.2.2 148)] (k_up E 148 (.inr (4, [.null, .null]))) 149 (k_up E 148 (kT Gw 148)) 151 := by
  refine k_met hI (by decide +kernel) (Nat.le_of_ble_eq_true rfl) (fun X hG hXl C hnm hQ => ?_)
  subst hG
  refine k_aload_n C 0 dX4_init_0 rfl ?_
  refine k_objInit C wml_227 dX4_init_1 ⟨Nat.le_of_ble_eq_true rfl, Nat.le_of_ble_eq_true rfl⟩ ?_
  refine k_aload_n C 0 dX4_init_4 rfl ?_
  refine k_bipush (v := nI 8) C dX4_init_5 (by decide) ?_
  refine k_newa (at' := .int) (ty := .int) C 0 8 rfl k_wai rfl (fun _ _ h => h) (((k_up_ne _ _ (by decide)).trans (hE 149 (by decide) (by decide))).trans (kT_z rfl (by decide))) rfl (by decide) (by decide) (by decide) dX4_init_7 ⟨Nat.le_of_ble_eq_true rfl, Nat.le_of_ble_eq_true rfl⟩ ?_
  refine k_putF C hnm 4 0 (by decide) vc_4 (by decide) tyX4 tyX4_ok nmX4 inXX4 wfl_228 rfl rfl (ty := .array .int) (by decide +kernel) rfl rfl (Nat.le_of_ble_eq_true rfl) (fs' := [.ref (Xd X 149), .null]) rfl dX4_init_9 ?_
  refine k_aload_n C 0 dX4_init_12 rfl ?_
  refine k_bipush (v := nI 16) C dX4_init_13 (by decide) ?_
  refine k_newa (at' := .int) (ty := .int) C 0 16 rfl k_wai rfl (fun _ _ h => h) (((k_up_ne _ _ (by decide)).trans (hE 150 (by decide) (by decide))).trans (kT_z rfl (by decide))) rfl (by decide) (by decide) (by decide) dX4_init_15 ⟨Nat.le_of_ble_eq_true rfl, Nat.le_of_ble_eq_true rfl⟩ ?_
  refine k_putF C hnm 4 1 (by decide) vc_4 (by decide) tyX4 tyX4_ok nmX4 inXX4 wfl_230 rfl rfl (ty := .array .int) (by decide +kernel) rfl rfl (Nat.le_of_ble_eq_true rfl) (fs' := [.ref (Xd X 149), .ref (Xd X 150)]) rfl dX4_init_17 ?_
  exact k_ret C hQ rfl (fun q _ => congrArg (fun e => k_up E 148 e q) (kT_o shm_148 rfl).symm) rfl rfl dX4_init_20
def rk_X4_151 : Room := { frames := 1, cells := 2, slots := 24, locals := 12 }
theorem kc_X4_151 {l : Launch} {Gw : gW} (hI : kI Gw) {E : Nat → va_E} (hE : ∀ q, 151 < q → q < 154 → E q = kT Gw q) : kM l Gw yX4_init cX4_init 1 rk_X4_151 [.ref (Gw.2.2 151)] (k_up E 151 (.inr (4, [.null, .null]))) 152 (k_up E 151 (kT Gw 151)) 154 := by
  refine k_met hI (by decide +kernel) (Nat.le_of_ble_eq_true rfl) (fun X hG hXl C hnm hQ => ?_)
  subst hG
  refine k_aload_n C 0 dX4_init_0 rfl ?_
  refine k_objInit C wml_227 dX4_init_1 ⟨Nat.le_of_ble_eq_true rfl, Nat.le_of_ble_eq_true rfl⟩ ?_
  refine k_aload_n C 0 dX4_init_4 rfl ?_
  refine k_bipush (v := nI 8) C dX4_init_5 (by decide) ?_
  refine k_newa (at' := .int) (ty := .int) C 0 8 rfl k_wai rfl (fun _ _ h => h) (((k_up_ne _ _ (by decide)).trans (hE 152 (by decide) (by decide))).trans (kT_z rfl (by decide))) rfl (by decide) (by decide) (by decide) dX4_init_7 ⟨Nat.le_of_ble_eq_true rfl, Nat.le_of_ble_eq_true rfl⟩ ?_
  refine k_putF C hnm 4 0 (by decide) vc_4 (by decide) tyX4 tyX4_ok nmX4 inXX4 wfl_228 rfl rfl (ty := .array .int) (by decide +kernel) rfl rfl (Nat.le_of_ble_eq_true rfl) (fs' := [.ref (Xd X 152), .null]) rfl dX4_init_9 ?_
  refine k_aload_n C 0 dX4_init_12 rfl ?_
  refine k_bipush (v := nI 16) C dX4_init_13 (by decide) ?_
  refine k_newa (at' := .int) (ty := .int) C 0 16 rfl k_wai rfl (fun _ _ h => h) (((k_up_ne _ _ (by decide)).trans (hE 153 (by decide) (by decide))).trans (kT_z rfl (by decide))) rfl (by decide) (by decide) (by decide) dX4_init_15 ⟨Nat.le_of_ble_eq_true rfl, Nat.le_of_ble_eq_true rfl⟩ ?_
  refine k_putF C hnm 4 1 (by decide) vc_4 (by decide) tyX4 tyX4_ok nmX4 inXX4 wfl_230 rfl rfl (ty := .array .int) (by decide +kernel) rfl rfl (Nat.le_of_ble_eq_true rfl) (fs' := [.ref (Xd X 152), .ref (Xd X 153)]) rfl dX4_init_17 ?_
  exact k_ret C hQ rfl (fun q _ => congrArg (fun e => k_up E 151 e q) (kT_o shm_151 rfl).symm) rfl rfl dX4_init_20
theorem dX0_init_0 : decode cX0_init 0 = .ok (.aload_n 0, 1) := by decide +kernel
theorem dX0_init_1 : decode cX0_init 1 = .ok (.invokespecial 3, 3) := by decide +kernel
theorem dX0_init_4 : decode cX0_init 4 = .ok (.aload_n 0, 1) := by decide +kernel
theorem dX0_init_5 : decode cX0_init 5 = .ok (.bipush 40, 2) := by decide +kernel
theorem dX0_init_7 : decode cX0_init 7 = .ok (.newarray .int, 2) := by decide +kernel
theorem dX0_init_9 : decode cX0_init 9 = .ok (.putfield 9, 3) := by decide +kernel
theorem dX0_init_12 : decode cX0_init 12 = .ok (.aload_n 0, 1) := by decide +kernel
theorem dX0_init_13 : decode cX0_init 13 = .ok (.bipush 40, 2) := by decide +kernel
theorem dX0_init_15 : decode cX0_init 15 = .ok (.newarray .int, 2) := by decide +kernel
theorem dX0_init_17 : decode cX0_init 17 = .ok (.putfield 15, 3) := by decide +kernel
theorem dX0_init_20 : decode cX0_init 20 = .ok (.aload_n 0, 1) := by decide +kernel
theorem dX0_init_21 : decode cX0_init 21 = .ok (.aload_n 1, 1) := by decide +kernel
theorem dX0_init_22 : decode cX0_init 22 = .ok (.putfield 18, 3) := by decide +kernel
theorem dX0_init_25 : decode cX0_init 25 = .ok (.aload_n 0, 1) := by decide +kernel
theorem dX0_init_26 : decode cX0_init 26 = .ok (.aload_n 2, 1) := by decide +kernel
theorem dX0_init_27 : decode cX0_init 27 = .ok (.putfield 22, 3) := by decide +kernel
theorem dX0_init_30 : decode cX0_init 30 = .ok (.aload_n 0, 1) := by decide +kernel
theorem dX0_init_31 : decode cX0_init 31 = .ok (.aload_n 3, 1) := by decide +kernel
theorem dX0_init_32 : decode cX0_init 32 = .ok (.putfield 26, 3) := by decide +kernel
theorem dX0_init_35 : decode cX0_init 35 = .ok (.return_, 1) := by decide +kernel
def rk_X0_154 : Room := { frames := 1, cells := 2, slots := 80, locals := 12 }
theorem hdk_X0 : yX0_init.cls ≠ "java/lang/invoke/MethodHandle" ∧ yX0_init.cls ≠ "java/lang/invoke/VarHandle" ∧ (parseMethodDescriptor yX0_init.desc).map (fun d => d.parameters.length) = some 3 := by decide +kernel
theorem kc_X0_154 {l : Launch} {Gw : gW} (hI : kI Gw) {E : Nat → va_E} (hE : ∀ q, 154 < q → q < 157 → E q = kT Gw q) : kM l Gw yX0_init cX0_init 4 rk_X0_154 [.ref (Gw.2.2 154), .ref (Gw.2.2 1), .ref (Gw.2.2 57), .ref (Gw.2.2 75)] (k_up E 154 (.inr (0, [.null, .null, .null, .null, .null]))) 155 (k_up E 154 (kT Gw 154)) 157 := by
  refine k_met hI (by decide +kernel) (Nat.le_of_ble_eq_true rfl) (fun X hG hXl C hnm hQ => ?_)
  subst hG
  refine k_aload_n C 0 dX0_init_0 rfl ?_
  refine k_objInit C wml_242 dX0_init_1 ⟨Nat.le_of_ble_eq_true rfl, Nat.le_of_ble_eq_true rfl⟩ ?_
  refine k_aload_n C 0 dX0_init_4 rfl ?_
  refine k_bipush (v := nI 40) C dX0_init_5 (by decide) ?_
  refine k_newa (at' := .int) (ty := .int) C 0 40 rfl k_wai rfl (fun _ _ h => h) (((k_up_ne _ _ (by decide)).trans (hE 155 (by decide) (by decide))).trans (kT_z rfl (by decide))) rfl (by decide) (by decide) (by decide) dX0_init_7 ⟨Nat.le_of_ble_eq_true rfl, Nat.le_of_ble_eq_true rfl⟩ ?_
  refine k_putF C hnm 0 3 (by decide) vc_0 (by decide) tyX0 tyX0_ok nmX0 inXX0 wfl_246 rfl rfl (ty := .array .int) (by decide +kernel) rfl rfl (Nat.le_of_ble_eq_true rfl) (fs' := [.null, .null, .null, .ref (Xd X 155), .null]) rfl dX0_init_9 ?_
  refine k_aload_n C 0 dX0_init_12 rfl ?_
  refine k_bipush (v := nI 40) C dX0_init_13 (by decide) ?_
  refine k_newa (at' := .int) (ty := .int) C 0 40 rfl k_wai rfl (fun _ _ h => h) (((k_up_ne _ _ (by decide)).trans (hE 156 (by decide) (by decide))).trans (kT_z rfl (by decide))) rfl (by decide) (by decide) (by decide) dX0_init_15 ⟨Nat.le_of_ble_eq_true rfl, Nat.le_of_ble_eq_true rfl⟩ ?_
  refine k_putF C hnm 0 4 (by decide) vc_0 (by decide) tyX0 tyX0_ok nmX0 inXX0 wfl_247 rfl rfl (ty := .array .int) (by decide +kernel) rfl rfl (Nat.le_of_ble_eq_true rfl) (fs' := [.null, .null, .null, .ref (Xd X 155), .ref (Xd X 156)]) rfl dX0_init_17 ?_
  refine k_aload_n C 0 dX0_init_20 rfl ?_
  refine k_aload_n C 1 dX0_init_21 rfl ?_
  refine k_putF C hnm 0 0 (by decide) vc_0 (by decide) tyX0 tyX0_ok nmX0 inXX0 wfl_243 rfl rfl (ty := .object "SlotBundler$Program") (by decide +kernel) rfl rfl (Nat.le_of_ble_eq_true rfl) (fs' := [.ref (Xd X 1), .null, .null, .ref (Xd X 155), .ref (Xd X 156)]) rfl dX0_init_22 ?_
  refine k_aload_n C 0 dX0_init_25 rfl ?_
  refine k_aload_n C 2 dX0_init_26 rfl ?_
  refine k_putF C hnm 0 1 (by decide) vc_0 (by decide) tyX0 tyX0_ok nmX0 inXX0 wfl_244 rfl rfl (ty := .object "SlotBundler$Blocks") (by decide +kernel) rfl rfl (Nat.le_of_ble_eq_true rfl) (fs' := [.ref (Xd X 1), .ref (Xd X 57), .null, .ref (Xd X 155), .ref (Xd X 156)]) rfl dX0_init_27 ?_
  refine k_aload_n C 0 dX0_init_30 rfl ?_
  refine k_aload_n C 3 dX0_init_31 rfl ?_
  refine k_putF C hnm 0 2 (by decide) vc_0 (by decide) tyX0 tyX0_ok nmX0 inXX0 wfl_245 rfl rfl (ty := .object "SlotBundler$Packing") (by decide +kernel) rfl rfl (Nat.le_of_ble_eq_true rfl) (fs' := [.ref (Xd X 1), .ref (Xd X 57), .ref (Xd X 75), .ref (Xd X 155), .ref (Xd X 156)]) rfl dX0_init_32 ?_
  exact k_ret C hQ rfl (fun q _ => congrArg (fun e => k_up E 154 e q) (kT_o sh_154 rfl).symm) rfl rfl dX0_init_35
