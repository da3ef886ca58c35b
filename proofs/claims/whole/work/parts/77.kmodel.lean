/-! the model's constructor -/
theorem dX9_init_0 : decode cX9_init 0 = .ok (.aload_n 0, 1) := by decide +kernel
theorem dX9_init_1 : decode cX9_init 1 = .ok (.invokespecial 1, 3) := by decide +kernel
theorem dX9_init_4 : decode cX9_init 4 = .ok (.aload_n 0, 1) := by decide +kernel
theorem dX9_init_5 : decode cX9_init 5 = .ok (.bipush 40, 2) := by decide +kernel
theorem dX9_init_7 : decode cX9_init 7 = .ok (.iconst 4, 1) := by decide +kernel
theorem dX9_init_8 : decode cX9_init 8 = .ok (.multianewarray 9 2, 4) := by decide +kernel
theorem dX9_init_12 : decode cX9_init 12 = .ok (.putfield 11, 3) := by decide +kernel
theorem dX9_init_15 : decode cX9_init 15 = .ok (.aload_n 0, 1) := by decide +kernel
theorem dX9_init_16 : decode cX9_init 16 = .ok (.bipush 10, 2) := by decide +kernel
theorem dX9_init_18 : decode cX9_init 18 = .ok (.bipush 40, 2) := by decide +kernel
theorem dX9_init_20 : decode cX9_init 20 = .ok (.iconst 4, 1) := by decide +kernel
theorem dX9_init_21 : decode cX9_init 21 = .ok (.multianewarray 14 3, 4) := by decide +kernel
theorem dX9_init_25 : decode cX9_init 25 = .ok (.putfield 16, 3) := by decide +kernel
theorem dX9_init_28 : decode cX9_init 28 = .ok (.aload_n 0, 1) := by decide +kernel
theorem dX9_init_29 : decode cX9_init 29 = .ok (.bipush 10, 2) := by decide +kernel
theorem dX9_init_31 : decode cX9_init 31 = .ok (.newarray .int, 2) := by decide +kernel
theorem dX9_init_33 : decode cX9_init 33 = .ok (.putfield 19, 3) := by decide +kernel
theorem dX9_init_36 : decode cX9_init 36 = .ok (.aload_n 0, 1) := by decide +kernel
theorem dX9_init_37 : decode cX9_init 37 = .ok (.bipush 40, 2) := by decide +kernel
theorem dX9_init_39 : decode cX9_init 39 = .ok (.newarray .int, 2) := by decide +kernel
theorem dX9_init_41 : decode cX9_init 41 = .ok (.putfield 23, 3) := by decide +kernel
theorem dX9_init_44 : decode cX9_init 44 = .ok (.aload_n 0, 1) := by decide +kernel
theorem dX9_init_45 : decode cX9_init 45 = .ok (.bipush 41, 2) := by decide +kernel
theorem dX9_init_47 : decode cX9_init 47 = .ok (.newarray .int, 2) := by decide +kernel
theorem dX9_init_49 : decode cX9_init 49 = .ok (.putfield 26, 3) := by decide +kernel
theorem dX9_init_52 : decode cX9_init 52 = .ok (.aload_n 0, 1) := by decide +kernel
theorem dX9_init_53 : decode cX9_init 53 = .ok (.bipush 8, 2) := by decide +kernel
theorem dX9_init_55 : decode cX9_init 55 = .ok (.iconst 3, 1) := by decide +kernel
theorem dX9_init_56 : decode cX9_init 56 = .ok (.multianewarray 9 2, 4) := by decide +kernel
theorem dX9_init_60 : decode cX9_init 60 = .ok (.putfield 29, 3) := by decide +kernel
theorem dX9_init_63 : decode cX9_init 63 = .ok (.aload_n 0, 1) := by decide +kernel
theorem dX9_init_64 : decode cX9_init 64 = .ok (.bipush 8, 2) := by decide +kernel
theorem dX9_init_66 : decode cX9_init 66 = .ok (.newarray .int, 2) := by decide +kernel
theorem dX9_init_68 : decode cX9_init 68 = .ok (.putfield 32, 3) := by decide +kernel
theorem dX9_init_71 : decode cX9_init 71 = .ok (.aload_n 0, 1) := by decide +kernel
theorem dX9_init_72 : decode cX9_init 72 = .ok (.bipush 40, 2) := by decide +kernel
theorem dX9_init_74 : decode cX9_init 74 = .ok (.newarray .int, 2) := by decide +kernel
theorem dX9_init_76 : decode cX9_init 76 = .ok (.putfield 35, 3) := by decide +kernel
theorem dX9_init_79 : decode cX9_init 79 = .ok (.aload_n 0, 1) := by decide +kernel
theorem dX9_init_80 : decode cX9_init 80 = .ok (.iconst 3, 1) := by decide +kernel
theorem dX9_init_81 : decode cX9_init 81 = .ok (.newarray .int, 2) := by decide +kernel
theorem dX9_init_83 : decode cX9_init 83 = .ok (.putfield 38, 3) := by decide +kernel
theorem dX9_init_86 : decode cX9_init 86 = .ok (.aload_n 0, 1) := by decide +kernel
theorem dX9_init_87 : decode cX9_init 87 = .ok (.bipush 60, 2) := by decide +kernel
theorem dX9_init_89 : decode cX9_init 89 = .ok (.iconst 3, 1) := by decide +kernel
theorem dX9_init_90 : decode cX9_init 90 = .ok (.multianewarray 9 2, 4) := by decide +kernel
theorem dX9_init_94 : decode cX9_init 94 = .ok (.putfield 41, 3) := by decide +kernel
theorem dX9_init_97 : decode cX9_init 97 = .ok (.aload_n 0, 1) := by decide +kernel
theorem dX9_init_98 : decode cX9_init 98 = .ok (.bipush 40, 2) := by decide +kernel
theorem dX9_init_100 : decode cX9_init 100 = .ok (.iconst 3, 1) := by decide +kernel
theorem dX9_init_101 : decode cX9_init 101 = .ok (.multianewarray 9 2, 4) := by decide +kernel
theorem dX9_init_105 : decode cX9_init 105 = .ok (.putfield 44, 3) := by decide +kernel
theorem dX9_init_108 : decode cX9_init 108 = .ok (.aload_n 0, 1) := by decide +kernel
theorem dX9_init_109 : decode cX9_init 109 = .ok (.bipush 60, 2) := by decide +kernel
theorem dX9_init_111 : decode cX9_init 111 = .ok (.newarray .int, 2) := by decide +kernel
theorem dX9_init_113 : decode cX9_init 113 = .ok (.putfield 47, 3) := by decide +kernel
theorem dX9_init_116 : decode cX9_init 116 = .ok (.aload_n 0, 1) := by decide +kernel
theorem dX9_init_117 : decode cX9_init 117 = .ok (.bipush 60, 2) := by decide +kernel
theorem dX9_init_119 : decode cX9_init 119 = .ok (.newarray .int, 2) := by decide +kernel
theorem dX9_init_121 : decode cX9_init 121 = .ok (.putfield 50, 3) := by decide +kernel
theorem dX9_init_124 : decode cX9_init 124 = .ok (.aload_n 0, 1) := by decide +kernel
theorem dX9_init_125 : decode cX9_init 125 = .ok (.sipush 280, 3) := by decide +kernel
theorem dX9_init_128 : decode cX9_init 128 = .ok (.newarray .int, 2) := by decide +kernel
theorem dX9_init_130 : decode cX9_init 130 = .ok (.putfield 53, 3) := by decide +kernel
theorem dX9_init_133 : decode cX9_init 133 = .ok (.aload_n 0, 1) := by decide +kernel
theorem dX9_init_134 : decode cX9_init 134 = .ok (.bipush 40, 2) := by decide +kernel
theorem dX9_init_136 : decode cX9_init 136 = .ok (.newarray .int, 2) := by decide +kernel
theorem dX9_init_138 : decode cX9_init 138 = .ok (.putfield 56, 3) := by decide +kernel
theorem dX9_init_141 : decode cX9_init 141 = .ok (.aload_n 0, 1) := by decide +kernel
theorem dX9_init_142 : decode cX9_init 142 = .ok (.bipush 24, 2) := by decide +kernel
theorem dX9_init_144 : decode cX9_init 144 = .ok (.newarray .int, 2) := by decide +kernel
theorem dX9_init_146 : decode cX9_init 146 = .ok (.putfield 59, 3) := by decide +kernel
theorem dX9_init_149 : decode cX9_init 149 = .ok (.aload_n 0, 1) := by decide +kernel
theorem dX9_init_150 : decode cX9_init 150 = .ok (.bipush 24, 2) := by decide +kernel
theorem dX9_init_152 : decode cX9_init 152 = .ok (.newarray .int, 2) := by decide +kernel
theorem dX9_init_154 : decode cX9_init 154 = .ok (.putfield 62, 3) := by decide +kernel
theorem dX9_init_157 : decode cX9_init 157 = .ok (.aload_n 0, 1) := by decide +kernel
theorem dX9_init_158 : decode cX9_init 158 = .ok (.bipush 24, 2) := by decide +kernel
theorem dX9_init_160 : decode cX9_init 160 = .ok (.newarray .int, 2) := by decide +kernel
theorem dX9_init_162 : decode cX9_init 162 = .ok (.putfield 65, 3) := by decide +kernel
theorem dX9_init_165 : decode cX9_init 165 = .ok (.aload_n 0, 1) := by decide +kernel
theorem dX9_init_166 : decode cX9_init 166 = .ok (.bipush 40, 2) := by decide +kernel
theorem dX9_init_168 : decode cX9_init 168 = .ok (.newarray .int, 2) := by decide +kernel
theorem dX9_init_170 : decode cX9_init 170 = .ok (.putfield 68, 3) := by decide +kernel
theorem dX9_init_173 : decode cX9_init 173 = .ok (.aload_n 0, 1) := by decide +kernel
theorem dX9_init_174 : decode cX9_init 174 = .ok (.bipush 40, 2) := by decide +kernel
theorem dX9_init_176 : decode cX9_init 176 = .ok (.newarray .int, 2) := by decide +kernel
theorem dX9_init_178 : decode cX9_init 178 = .ok (.putfield 71, 3) := by decide +kernel
theorem dX9_init_181 : decode cX9_init 181 = .ok (.aload_n 0, 1) := by decide +kernel
theorem dX9_init_182 : decode cX9_init 182 = .ok (.bipush 40, 2) := by decide +kernel
theorem dX9_init_184 : decode cX9_init 184 = .ok (.newarray .int, 2) := by decide +kernel
theorem dX9_init_186 : decode cX9_init 186 = .ok (.putfield 74, 3) := by decide +kernel
theorem dX9_init_189 : decode cX9_init 189 = .ok (.return_, 1) := by decide +kernel
theorem ks_kc_X9_157_158 : ∀ j, j < 40 → g_sh (158 + 1 + j) = .inr (0, 4, none) ∧ 158 + 1 + j ≠ 57 := by decide +kernel
theorem ks_kc_X9_157_199 : ∀ i, i < 10 → g_sh (199 + 1 + 41 * i) = .inr (2, 40, some (199 + 1 + 41 * i + 1)) := by decide +kernel
theorem ks_kc_X9_157_199_q : ∀ q, q < 410 → q % 41 = 0 ∨ g_sh (200 + q) = .inr (0, 4, none) := by decide +kernel
theorem ks_kc_X9_157_199_r (i : Nat) (hi : i < 10) (j : Nat) (hj : j < 40) : g_sh (199 + 1 + 41 * i + 1 + j) = .inr (0, 4, none) := by
  have h := (ks_kc_X9_157_199_q (41 * i + 1 + j) (by omega)).resolve_left (by omega)
  rw [show 199 + 1 + 41 * i + 1 + j = 200 + (41 * i + 1 + j) by omega]
  exact h
theorem ks_kc_X9_157_613 : ∀ j, j < 8 → g_sh (613 + 1 + j) = .inr (0, 3, none) ∧ 613 + 1 + j ≠ 57 := by decide +kernel
theorem ks_kc_X9_157_625 : ∀ j, j < 60 → g_sh (625 + 1 + j) = .inr (0, 3, none) ∧ 625 + 1 + j ≠ 57 := by decide +kernel
theorem ks_kc_X9_157_686 : ∀ j, j < 40 → g_sh (686 + 1 + j) = .inr (0, 3, none) ∧ 686 + 1 + j ≠ 57 := by decide +kernel
def rk_X9_157 : Room := { frames := 1, cells := 579, slots := 3416, locals := 12 }
theorem hdk_X9 : yX9_init.cls ≠ "java/lang/invoke/MethodHandle" ∧ yX9_init.cls ≠ "java/lang/invoke/VarHandle" ∧ (parseMethodDescriptor yX9_init.desc).map (fun d => d.parameters.length) = some 0 := by decide +kernel
theorem kc_X9_157 {l : Launch} {Gw : gW} (hI : kI Gw) {E : Nat → va_E} (hE : ∀ q, 157 < q → q < 737 → E q = kT Gw q) : kM l Gw yX9_init cX9_init 1 rk_X9_157 [.ref (Gw.2.2 157)] (k_up E 157 (.inr (9, [.int 0, .null, .null, .null, .int 0, .null, .null, .int 0, .int 0, .null, .null, .null, .null, .int 0, .int 0, .int 0, .int 0, .int 0, .null, .null, .null, .null, .int 0, .null, .null, .int 0, .null, .null, .null, .int 0, .null, .null, .null, .int 0]))) 158 (k_up E 157 (kT Gw 157)) 737 := by
  refine k_met hI (by decide +kernel) (Nat.le_of_ble_eq_true rfl) (fun X hG hXl C hnm hQ => ?_)
  subst hG
  refine k_aload_n C 0 dX9_init_0 rfl ?_
  refine k_objInit C wml_657 dX9_init_1 ⟨Nat.le_of_ble_eq_true rfl, Nat.le_of_ble_eq_true rfl⟩ ?_
  refine k_aload_n C 0 dX9_init_4 rfl ?_
  refine k_bipush (v := nI 40) C dX9_init_5 (by decide) ?_
  refine k_iconst (v := nI 4) C dX9_init_7 (by decide) ?_
  refine k_mna2 C 40 4 wcl_658 (by decide) (by decide) ⟨Nat.le_of_ble_eq_true rfl, Nat.le_of_ble_eq_true rfl⟩ dX9_init_8 (((k_up_ne _ _ (by decide)).trans (hE 158 (by decide) (by decide))).trans (kT_q (fun k => 158 + 1 + k) rfl (fun k => by simp [g_ch]))) (fun j hj => ((k_up_ne _ _ (by omega)).trans (hE _ (by omega) (by omega))).trans (kT_rows ks_kc_X9_157_158 _ j hj)) ?_
  refine k_putF C hnm 9 1 (by decide) vc_9 (by decide) tyX9 tyX9_ok nmX9 inXX9 wfl_662 rfl rfl (ty := .array (.array .int)) (by decide +kernel) rfl rfl (Nat.le_of_ble_eq_true rfl) (fs' := [.int 0, .ref (Xd X 158), .null, .null, .int 0, .null, .null, .int 0, .int 0, .null, .null, .null, .null, .int 0, .int 0, .int 0, .int 0, .int 0, .null, .null, .null, .null, .int 0, .null, .null, .int 0, .null, .null, .null, .int 0, .null, .null, .null, .int 0]) rfl dX9_init_12 ?_
  refine k_aload_n C 0 dX9_init_15 rfl ?_
  refine k_bipush (v := nI 10) C dX9_init_16 (by decide) ?_
  refine k_bipush (v := nI 40) C dX9_init_18 (by decide) ?_
  refine k_iconst (v := nI 4) C dX9_init_20 (by decide) ?_
  refine k_mna3 C wcl_659 ⟨Nat.le_of_ble_eq_true rfl, Nat.le_of_ble_eq_true rfl⟩ dX9_init_21 (((k_up_ne _ _ (by decide)).trans (hE 199 (by decide) (by decide))).trans (kT_q (fun k => 199 + 1 + 41 * k) rfl (fun k => by simp [g_ch]))) (fun i hi => ⟨((k_up_ne _ _ (by omega)).trans (hE _ (by omega) (by omega))).trans (kT_q (fun k => 199 + 1 + 41 * i + 1 + k) (ks_kc_X9_157_199 i hi) (fun k => by simp [g_ch])), fun j hj => ((k_up_ne _ _ (by omega)).trans (hE _ (by omega) (by omega))).trans (kT_z (ks_kc_X9_157_199_r i hi j hj) (by omega))⟩) ?_
  refine k_putF C hnm 9 2 (by decide) vc_9 (by decide) tyX9 tyX9_ok nmX9 inXX9 wfl_663 rfl rfl (ty := .array (.array (.array .int))) (by decide +kernel) rfl rfl (Nat.le_of_ble_eq_true rfl) (fs' := [.int 0, .ref (Xd X 158), .ref (Xd X 199), .null, .int 0, .null, .null, .int 0, .int 0, .null, .null, .null, .null, .int 0, .int 0, .int 0, .int 0, .int 0, .null, .null, .null, .null, .int 0, .null, .null, .int 0, .null, .null, .null, .int 0, .null, .null, .null, .int 0]) rfl dX9_init_25 ?_
  refine k_aload_n C 0 dX9_init_28 rfl ?_
  refine k_bipush (v := nI 10) C dX9_init_29 (by decide) ?_
  refine k_newa (at' := .int) (ty := .int) C 0 10 rfl k_wai rfl (fun _ _ h => h) (((k_up_ne _ _ (by decide)).trans (hE 610 (by decide) (by decide))).trans (kT_z rfl (by decide))) rfl (by decide) (by decide) (by decide) dX9_init_31 ⟨Nat.le_of_ble_eq_true rfl, Nat.le_of_ble_eq_true rfl⟩ ?_
  refine k_putF C hnm 9 3 (by decide) vc_9 (by decide) tyX9 tyX9_ok nmX9 inXX9 wfl_664 rfl rfl (ty := .array .int) (by decide +kernel) rfl rfl (Nat.le_of_ble_eq_true rfl) (fs' := [.int 0, .ref (Xd X 158), .ref (Xd X 199), .ref (Xd X 610), .int 0, .null, .null, .int 0, .int 0, .null, .null, .null, .null, .int 0, .int 0, .int 0, .int 0, .int 0, .null, .null, .null, .null, .int 0, .null, .null, .int 0, .null, .null, .null, .int 0, .null, .null, .null, .int 0]) rfl dX9_init_33 ?_
  refine k_aload_n C 0 dX9_init_36 rfl ?_
  refine k_bipush (v := nI 40) C dX9_init_37 (by decide) ?_
  refine k_newa (at' := .int) (ty := .int) C 0 40 rfl k_wai rfl (fun _ _ h => h) (((k_up_ne _ _ (by decide)).trans (hE 611 (by decide) (by decide))).trans (kT_z rfl (by decide))) rfl (by decide) (by decide) (by decide) dX9_init_39 ⟨Nat.le_of_ble_eq_true rfl, Nat.le_of_ble_eq_true rfl⟩ ?_
  refine k_putF C hnm 9 5 (by decide) vc_9 (by decide) tyX9 tyX9_ok nmX9 inXX9 wfl_666 rfl rfl (ty := .array .int) (by decide +kernel) rfl rfl (Nat.le_of_ble_eq_true rfl) (fs' := [.int 0, .ref (Xd X 158), .ref (Xd X 199), .ref (Xd X 610), .int 0, .ref (Xd X 611), .null, .int 0, .int 0, .null, .null, .null, .null, .int 0, .int 0, .int 0, .int 0, .int 0, .null, .null, .null, .null, .int 0, .null, .null, .int 0, .null, .null, .null, .int 0, .null, .null, .null, .int 0]) rfl dX9_init_41 ?_
  refine k_aload_n C 0 dX9_init_44 rfl ?_
  refine k_bipush (v := nI 41) C dX9_init_45 (by decide) ?_
  refine k_newa (at' := .int) (ty := .int) C 0 41 rfl k_wai rfl (fun _ _ h => h) (((k_up_ne _ _ (by decide)).trans (hE 612 (by decide) (by decide))).trans (kT_z rfl (by decide))) rfl (by decide) (by decide) (by decide) dX9_init_47 ⟨Nat.le_of_ble_eq_true rfl, Nat.le_of_ble_eq_true rfl⟩ ?_
  refine k_putF C hnm 9 6 (by decide) vc_9 (by decide) tyX9 tyX9_ok nmX9 inXX9 wfl_667 rfl rfl (ty := .array .int) (by decide +kernel) rfl rfl (Nat.le_of_ble_eq_true rfl) (fs' := [.int 0, .ref (Xd X 158), .ref (Xd X 199), .ref (Xd X 610), .int 0, .ref (Xd X 611), .ref (Xd X 612), .int 0, .int 0, .null, .null, .null, .null, .int 0, .int 0, .int 0, .int 0, .int 0, .null, .null, .null, .null, .int 0, .null, .null, .int 0, .null, .null, .null, .int 0, .null, .null, .null, .int 0]) rfl dX9_init_49 ?_
  refine k_aload_n C 0 dX9_init_52 rfl ?_
  refine k_bipush (v := nI 8) C dX9_init_53 (by decide) ?_
  refine k_iconst (v := nI 3) C dX9_init_55 (by decide) ?_
  refine k_mna2 C 8 3 wcl_658 (by decide) (by decide) ⟨Nat.le_of_ble_eq_true rfl, Nat.le_of_ble_eq_true rfl⟩ dX9_init_56 (((k_up_ne _ _ (by decide)).trans (hE 613 (by decide) (by decide))).trans (kT_q (fun k => 613 + 1 + k) rfl (fun k => by simp [g_ch]))) (fun j hj => ((k_up_ne _ _ (by omega)).trans (hE _ (by omega) (by omega))).trans (kT_rows ks_kc_X9_157_613 _ j hj)) ?_
  refine k_putF C hnm 9 9 (by decide) vc_9 (by decide) tyX9 tyX9_ok nmX9 inXX9 wfl_670 rfl rfl (ty := .array (.array .int)) (by decide +kernel) rfl rfl (Nat.le_of_ble_eq_true rfl) (fs' := [.int 0, .ref (Xd X 158), .ref (Xd X 199), .ref (Xd X 610), .int 0, .ref (Xd X 611), .ref (Xd X 612), .int 0, .int 0, .ref (Xd X 613), .null, .null, .null, .int 0, .int 0, .int 0, .int 0, .int 0, .null, .null, .null, .null, .int 0, .null, .null, .int 0, .null, .null, .null, .int 0, .null, .null, .null, .int 0]) rfl dX9_init_60 ?_
  refine k_aload_n C 0 dX9_init_63 rfl ?_
  refine k_bipush (v := nI 8) C dX9_init_64 (by decide) ?_
  refine k_newa (at' := .int) (ty := .int) C 0 8 rfl k_wai rfl (fun _ _ h => h) (((k_up_ne _ _ (by decide)).trans (hE 622 (by decide) (by decide))).trans (kT_z rfl (by decide))) rfl (by decide) (by decide) (by decide) dX9_init_66 ⟨Nat.le_of_ble_eq_true rfl, Nat.le_of_ble_eq_true rfl⟩ ?_
  refine k_putF C hnm 9 10 (by decide) vc_9 (by decide) tyX9 tyX9_ok nmX9 inXX9 wfl_671 rfl rfl (ty := .array .int) (by decide +kernel) rfl rfl (Nat.le_of_ble_eq_true rfl) (fs' := [.int 0, .ref (Xd X 158), .ref (Xd X 199), .ref (Xd X 610), .int 0, .ref (Xd X 611), .ref (Xd X 612), .int 0, .int 0, .ref (Xd X 613), .ref (Xd X 622), .null, .null, .int 0, .int 0, .int 0, .int 0, .int 0, .null, .null, .null, .null, .int 0, .null, .null, .int 0, .null, .null, .null, .int 0, .null, .null, .null, .int 0]) rfl dX9_init_68 ?_
  refine k_aload_n C 0 dX9_init_71 rfl ?_
  refine k_bipush (v := nI 40) C dX9_init_72 (by decide) ?_
  refine k_newa (at' := .int) (ty := .int) C 0 40 rfl k_wai rfl (fun _ _ h => h) (((k_up_ne _ _ (by decide)).trans (hE 623 (by decide) (by decide))).trans (kT_z rfl (by decide))) rfl (by decide) (by decide) (by decide) dX9_init_74 ⟨Nat.le_of_ble_eq_true rfl, Nat.le_of_ble_eq_true rfl⟩ ?_
  refine k_putF C hnm 9 11 (by decide) vc_9 (by decide) tyX9 tyX9_ok nmX9 inXX9 wfl_672 rfl rfl (ty := .array .int) (by decide +kernel) rfl rfl (Nat.le_of_ble_eq_true rfl) (fs' := [.int 0, .ref (Xd X 158), .ref (Xd X 199), .ref (Xd X 610), .int 0, .ref (Xd X 611), .ref (Xd X 612), .int 0, .int 0, .ref (Xd X 613), .ref (Xd X 622), .ref (Xd X 623), .null, .int 0, .int 0, .int 0, .int 0, .int 0, .null, .null, .null, .null, .int 0, .null, .null, .int 0, .null, .null, .null, .int 0, .null, .null, .null, .int 0]) rfl dX9_init_76 ?_
  refine k_aload_n C 0 dX9_init_79 rfl ?_
  refine k_iconst (v := nI 3) C dX9_init_80 (by decide) ?_
  refine k_newa (at' := .int) (ty := .int) C 0 3 rfl k_wai rfl (fun _ _ h => h) (((k_up_ne _ _ (by decide)).trans (hE 624 (by decide) (by decide))).trans (kT_z rfl (by decide))) rfl (by decide) (by decide) (by decide) dX9_init_81 ⟨Nat.le_of_ble_eq_true rfl, Nat.le_of_ble_eq_true rfl⟩ ?_
  refine k_putF C hnm 9 12 (by decide) vc_9 (by decide) tyX9 tyX9_ok nmX9 inXX9 wfl_673 rfl rfl (ty := .array .int) (by decide +kernel) rfl rfl (Nat.le_of_ble_eq_true rfl) (fs' := [.int 0, .ref (Xd X 158), .ref (Xd X 199), .ref (Xd X 610), .int 0, .ref (Xd X 611), .ref (Xd X 612), .int 0, .int 0, .ref (Xd X 613), .ref (Xd X 622), .ref (Xd X 623), .ref (Xd X 624), .int 0, .int 0, .int 0, .int 0, .int 0, .null, .null, .null, .null, .int 0, .null, .null, .int 0, .null, .null, .null, .int 0, .null, .null, .null, .int 0]) rfl dX9_init_83 ?_
  refine k_aload_n C 0 dX9_init_86 rfl ?_
  refine k_bipush (v := nI 60) C dX9_init_87 (by decide) ?_
  refine k_iconst (v := nI 3) C dX9_init_89 (by decide) ?_
  refine k_mna2 C 60 3 wcl_658 (by decide) (by decide) ⟨Nat.le_of_ble_eq_true rfl, Nat.le_of_ble_eq_true rfl⟩ dX9_init_90 (((k_up_ne _ _ (by decide)).trans (hE 625 (by decide) (by decide))).trans (kT_q (fun k => 625 + 1 + k) rfl (fun k => by simp [g_ch]))) (fun j hj => ((k_up_ne _ _ (by omega)).trans (hE _ (by omega) (by omega))).trans (kT_rows ks_kc_X9_157_625 _ j hj)) ?_
  refine k_putF C hnm 9 18 (by decide) vc_9 (by decide) tyX9 tyX9_ok nmX9 inXX9 wfl_679 rfl rfl (ty := .array (.array .int)) (by decide +kernel) rfl rfl (Nat.le_of_ble_eq_true rfl) (fs' := [.int 0, .ref (Xd X 158), .ref (Xd X 199), .ref (Xd X 610), .int 0, .ref (Xd X 611), .ref (Xd X 612), .int 0, .int 0, .ref (Xd X 613), .ref (Xd X 622), .ref (Xd X 623), .ref (Xd X 624), .int 0, .int 0, .int 0, .int 0, .int 0, .ref (Xd X 625), .null, .null, .null, .int 0, .null, .null, .int 0, .null, .null, .null, .int 0, .null, .null, .null, .int 0]) rfl dX9_init_94 ?_
  refine k_aload_n C 0 dX9_init_97 rfl ?_
  refine k_bipush (v := nI 40) C dX9_init_98 (by decide) ?_
  refine k_iconst (v := nI 3) C dX9_init_100 (by decide) ?_
  refine k_mna2 C 40 3 wcl_658 (by decide) (by decide) ⟨Nat.le_of_ble_eq_true rfl, Nat.le_of_ble_eq_true rfl⟩ dX9_init_101 (((k_up_ne _ _ (by decide)).trans (hE 686 (by decide) (by decide))).trans (kT_q (fun k => 686 + 1 + k) rfl (fun k => by simp [g_ch]))) (fun j hj => ((k_up_ne _ _ (by omega)).trans (hE _ (by omega) (by omega))).trans (kT_rows ks_kc_X9_157_686 _ j hj)) ?_
  refine k_putF C hnm 9 19 (by decide) vc_9 (by decide) tyX9 tyX9_ok nmX9 inXX9 wfl_680 rfl rfl (ty := .array (.array .int)) (by decide +kernel) rfl rfl (Nat.le_of_ble_eq_true rfl) (fs' := [.int 0, .ref (Xd X 158), .ref (Xd X 199), .ref (Xd X 610), .int 0, .ref (Xd X 611), .ref (Xd X 612), .int 0, .int 0, .ref (Xd X 613), .ref (Xd X 622), .ref (Xd X 623), .ref (Xd X 624), .int 0, .int 0, .int 0, .int 0, .int 0, .ref (Xd X 625), .ref (Xd X 686), .null, .null, .int 0, .null, .null, .int 0, .null, .null, .null, .int 0, .null, .null, .null, .int 0]) rfl dX9_init_105 ?_
  refine k_aload_n C 0 dX9_init_108 rfl ?_
  refine k_bipush (v := nI 60) C dX9_init_109 (by decide) ?_
  refine k_newa (at' := .int) (ty := .int) C 0 60 rfl k_wai rfl (fun _ _ h => h) (((k_up_ne _ _ (by decide)).trans (hE 727 (by decide) (by decide))).trans (kT_z rfl (by decide))) rfl (by decide) (by decide) (by decide) dX9_init_111 ⟨Nat.le_of_ble_eq_true rfl, Nat.le_of_ble_eq_true rfl⟩ ?_
  refine k_putF C hnm 9 20 (by decide) vc_9 (by decide) tyX9 tyX9_ok nmX9 inXX9 wfl_681 rfl rfl (ty := .array .int) (by decide +kernel) rfl rfl (Nat.le_of_ble_eq_true rfl) (fs' := [.int 0, .ref (Xd X 158), .ref (Xd X 199), .ref (Xd X 610), .int 0, .ref (Xd X 611), .ref (Xd X 612), .int 0, .int 0, .ref (Xd X 613), .ref (Xd X 622), .ref (Xd X 623), .ref (Xd X 624), .int 0, .int 0, .int 0, .int 0, .int 0, .ref (Xd X 625), .ref (Xd X 686), .ref (Xd X 727), .null, .int 0, .null, .null, .int 0, .null, .null, .null, .int 0, .null, .null, .null, .int 0]) rfl dX9_init_113 ?_
  refine k_aload_n C 0 dX9_init_116 rfl ?_
  refine k_bipush (v := nI 60) C dX9_init_117 (by decide) ?_
  refine k_newa (at' := .int) (ty := .int) C 0 60 rfl k_wai rfl (fun _ _ h => h) (((k_up_ne _ _ (by decide)).trans (hE 728 (by decide) (by decide))).trans (kT_z rfl (by decide))) rfl (by decide) (by decide) (by decide) dX9_init_119 ⟨Nat.le_of_ble_eq_true rfl, Nat.le_of_ble_eq_true rfl⟩ ?_
  refine k_putF C hnm 9 21 (by decide) vc_9 (by decide) tyX9 tyX9_ok nmX9 inXX9 wfl_682 rfl rfl (ty := .array .int) (by decide +kernel) rfl rfl (Nat.le_of_ble_eq_true rfl) (fs' := [.int 0, .ref (Xd X 158), .ref (Xd X 199), .ref (Xd X 610), .int 0, .ref (Xd X 611), .ref (Xd X 612), .int 0, .int 0, .ref (Xd X 613), .ref (Xd X 622), .ref (Xd X 623), .ref (Xd X 624), .int 0, .int 0, .int 0, .int 0, .int 0, .ref (Xd X 625), .ref (Xd X 686), .ref (Xd X 727), .ref (Xd X 728), .int 0, .null, .null, .int 0, .null, .null, .null, .int 0, .null, .null, .null, .int 0]) rfl dX9_init_121 ?_
  refine k_aload_n C 0 dX9_init_124 rfl ?_
  refine k_sipush (v := nI 280) C dX9_init_125 (by decide) ?_
  refine k_newa (at' := .int) (ty := .int) C 0 280 rfl k_wai rfl (fun _ _ h => h) (((k_up_ne _ _ (by decide)).trans (hE 729 (by decide) (by decide))).trans (kT_z rfl (by decide))) rfl (by decide) (by decide) (by decide) dX9_init_128 ⟨Nat.le_of_ble_eq_true rfl, Nat.le_of_ble_eq_true rfl⟩ ?_
  refine k_putF C hnm 9 23 (by decide) vc_9 (by decide) tyX9 tyX9_ok nmX9 inXX9 wfl_684 rfl rfl (ty := .array .int) (by decide +kernel) rfl rfl (Nat.le_of_ble_eq_true rfl) (fs' := [.int 0, .ref (Xd X 158), .ref (Xd X 199), .ref (Xd X 610), .int 0, .ref (Xd X 611), .ref (Xd X 612), .int 0, .int 0, .ref (Xd X 613), .ref (Xd X 622), .ref (Xd X 623), .ref (Xd X 624), .int 0, .int 0, .int 0, .int 0, .int 0, .ref (Xd X 625), .ref (Xd X 686), .ref (Xd X 727), .ref (Xd X 728), .int 0, .ref (Xd X 729), .null, .int 0, .null, .null, .null, .int 0, .null, .null, .null, .int 0]) rfl dX9_init_130 ?_
  refine k_aload_n C 0 dX9_init_133 rfl ?_
  refine k_bipush (v := nI 40) C dX9_init_134 (by decide) ?_
  refine k_newa (at' := .int) (ty := .int) C 0 40 rfl k_wai rfl (fun _ _ h => h) (((k_up_ne _ _ (by decide)).trans (hE 730 (by decide) (by decide))).trans (kT_z rfl (by decide))) rfl (by decide) (by decide) (by decide) dX9_init_136 ⟨Nat.le_of_ble_eq_true rfl, Nat.le_of_ble_eq_true rfl⟩ ?_
  refine k_putF C hnm 9 24 (by decide) vc_9 (by decide) tyX9 tyX9_ok nmX9 inXX9 wfl_685 rfl rfl (ty := .array .int) (by decide +kernel) rfl rfl (Nat.le_of_ble_eq_true rfl) (fs' := [.int 0, .ref (Xd X 158), .ref (Xd X 199), .ref (Xd X 610), .int 0, .ref (Xd X 611), .ref (Xd X 612), .int 0, .int 0, .ref (Xd X 613), .ref (Xd X 622), .ref (Xd X 623), .ref (Xd X 624), .int 0, .int 0, .int 0, .int 0, .int 0, .ref (Xd X 625), .ref (Xd X 686), .ref (Xd X 727), .ref (Xd X 728), .int 0, .ref (Xd X 729), .ref (Xd X 730), .int 0, .null, .null, .null, .int 0, .null, .null, .null, .int 0]) rfl dX9_init_138 ?_
  refine k_aload_n C 0 dX9_init_141 rfl ?_
  refine k_bipush (v := nI 24) C dX9_init_142 (by decide) ?_
  refine k_newa (at' := .int) (ty := .int) C 0 24 rfl k_wai rfl (fun _ _ h => h) (((k_up_ne _ _ (by decide)).trans (hE 731 (by decide) (by decide))).trans (kT_z rfl (by decide))) rfl (by decide) (by decide) (by decide) dX9_init_144 ⟨Nat.le_of_ble_eq_true rfl, Nat.le_of_ble_eq_true rfl⟩ ?_
  refine k_putF C hnm 9 26 (by decide) vc_9 (by decide) tyX9 tyX9_ok nmX9 inXX9 wfl_687 rfl rfl (ty := .array .int) (by decide +kernel) rfl rfl (Nat.le_of_ble_eq_true rfl) (fs' := [.int 0, .ref (Xd X 158), .ref (Xd X 199), .ref (Xd X 610), .int 0, .ref (Xd X 611), .ref (Xd X 612), .int 0, .int 0, .ref (Xd X 613), .ref (Xd X 622), .ref (Xd X 623), .ref (Xd X 624), .int 0, .int 0, .int 0, .int 0, .int 0, .ref (Xd X 625), .ref (Xd X 686), .ref (Xd X 727), .ref (Xd X 728), .int 0, .ref (Xd X 729), .ref (Xd X 730), .int 0, .ref (Xd X 731), .null, .null, .int 0, .null, .null, .null, .int 0]) rfl dX9_init_146 ?_
  refine k_aload_n C 0 dX9_init_149 rfl ?_
  refine k_bipush (v := nI 24) C dX9_init_150 (by decide) ?_
  refine k_newa (at' := .int) (ty := .int) C 0 24 rfl k_wai rfl (fun _ _ h => h) (((k_up_ne _ _ (by decide)).trans (hE 732 (by decide) (by decide))).trans (kT_z rfl (by decide))) rfl (by decide) (by decide) (by decide) dX9_init_152 ⟨Nat.le_of_ble_eq_true rfl, Nat.le_of_ble_eq_true rfl⟩ ?_
  refine k_putF C hnm 9 27 (by decide) vc_9 (by decide) tyX9 tyX9_ok nmX9 inXX9 wfl_688 rfl rfl (ty := .array .int) (by decide +kernel) rfl rfl (Nat.le_of_ble_eq_true rfl) (fs' := [.int 0, .ref (Xd X 158), .ref (Xd X 199), .ref (Xd X 610), .int 0, .ref (Xd X 611), .ref (Xd X 612), .int 0, .int 0, .ref (Xd X 613), .ref (Xd X 622), .ref (Xd X 623), .ref (Xd X 624), .int 0, .int 0, .int 0, .int 0, .int 0, .ref (Xd X 625), .ref (Xd X 686), .ref (Xd X 727), .ref (Xd X 728), .int 0, .ref (Xd X 729), .ref (Xd X 730), .int 0, .ref (Xd X 731), .ref (Xd X 732), .null, .int 0, .null, .null, .null, .int 0]) rfl dX9_init_154 ?_
  refine k_aload_n C 0 dX9_init_157 rfl ?_
  refine k_bipush (v := nI 24) C dX9_init_158 (by decide) ?_
  refine k_newa (at' := .int) (ty := .int) C 0 24 rfl k_wai rfl (fun _ _ h => h) (((k_up_ne _ _ (by decide)).trans (hE 733 (by decide) (by decide))).trans (kT_z rfl (by decide))) rfl (by decide) (by decide) (by decide) dX9_init_160 ⟨Nat.le_of_ble_eq_true rfl, Nat.le_of_ble_eq_true rfl⟩ ?_
  refine k_putF C hnm 9 28 (by decide) vc_9 (by decide) tyX9 tyX9_ok nmX9 inXX9 wfl_689 rfl rfl (ty := .array .int) (by decide +kernel) rfl rfl (Nat.le_of_ble_eq_true rfl) (fs' := [.int 0, .ref (Xd X 158), .ref (Xd X 199), .ref (Xd X 610), .int 0, .ref (Xd X 611), .ref (Xd X 612), .int 0, .int 0, .ref (Xd X 613), .ref (Xd X 622), .ref (Xd X 623), .ref (Xd X 624), .int 0, .int 0, .int 0, .int 0, .int 0, .ref (Xd X 625), .ref (Xd X 686), .ref (Xd X 727), .ref (Xd X 728), .int 0, .ref (Xd X 729), .ref (Xd X 730), .int 0, .ref (Xd X 731), .ref (Xd X 732), .ref (Xd X 733), .int 0, .null, .null, .null, .int 0]) rfl dX9_init_162 ?_
  refine k_aload_n C 0 dX9_init_165 rfl ?_
  refine k_bipush (v := nI 40) C dX9_init_166 (by decide) ?_
  refine k_newa (at' := .int) (ty := .int) C 0 40 rfl k_wai rfl (fun _ _ h => h) (((k_up_ne _ _ (by decide)).trans (hE 734 (by decide) (by decide))).trans (kT_z rfl (by decide))) rfl (by decide) (by decide) (by decide) dX9_init_168 ⟨Nat.le_of_ble_eq_true rfl, Nat.le_of_ble_eq_true rfl⟩ ?_
  refine k_putF C hnm 9 30 (by decide) vc_9 (by decide) tyX9 tyX9_ok nmX9 inXX9 wfl_691 rfl rfl (ty := .array .int) (by decide +kernel) rfl rfl (Nat.le_of_ble_eq_true rfl) (fs' := [.int 0, .ref (Xd X 158), .ref (Xd X 199), .ref (Xd X 610), .int 0, .ref (Xd X 611), .ref (Xd X 612), .int 0, .int 0, .ref (Xd X 613), .ref (Xd X 622), .ref (Xd X 623), .ref (Xd X 624), .int 0, .int 0, .int 0, .int 0, .int 0, .ref (Xd X 625), .ref (Xd X 686), .ref (Xd X 727), .ref (Xd X 728), .int 0, .ref (Xd X 729), .ref (Xd X 730), .int 0, .ref (Xd X 731), .ref (Xd X 732), .ref (Xd X 733), .int 0, .ref (Xd X 734), .null, .null, .int 0]) rfl dX9_init_170 ?_
  refine k_aload_n C 0 dX9_init_173 rfl ?_
  refine k_bipush (v := nI 40) C dX9_init_174 (by decide) ?_
  refine k_newa (at' := .int) (ty := .int) C 0 40 rfl k_wai rfl (fun _ _ h => h) (((k_up_ne _ _ (by decide)).trans (hE 735 (by decide) (by decide))).trans (kT_z rfl (by decide))) rfl (by decide) (by decide) (by decide) dX9_init_176 ⟨Nat.le_of_ble_eq_true rfl, Nat.le_of_ble_eq_true rfl⟩ ?_
  refine k_putF C hnm 9 31 (by decide) vc_9 (by decide) tyX9 tyX9_ok nmX9 inXX9 wfl_692 rfl rfl (ty := .array .int) (by decide +kernel) rfl rfl (Nat.le_of_ble_eq_true rfl) (fs' := [.int 0, .ref (Xd X 158), .ref (Xd X 199), .ref (Xd X 610), .int 0, .ref (Xd X 611), .ref (Xd X 612), .int 0, .int 0, .ref (Xd X 613), .ref (Xd X 622), .ref (Xd X 623), .ref (Xd X 624), .int 0, .int 0, .int 0, .int 0, .int 0, .ref (Xd X 625), .ref (Xd X 686), .ref (Xd X 727), .ref (Xd X 728), .int 0, .ref (Xd X 729), .ref (Xd X 730), .int 0, .ref (Xd X 731), .ref (Xd X 732), .ref (Xd X 733), .int 0, .ref (Xd X 734), .ref (Xd X 735), .null, .int 0]) rfl dX9_init_178 ?_
  refine k_aload_n C 0 dX9_init_181 rfl ?_
  refine k_bipush (v := nI 40) C dX9_init_182 (by decide) ?_
  refine k_newa (at' := .int) (ty := .int) C 0 40 rfl k_wai rfl (fun _ _ h => h) (((k_up_ne _ _ (by decide)).trans (hE 736 (by decide) (by decide))).trans (kT_z rfl (by decide))) rfl (by decide) (by decide) (by decide) dX9_init_184 ⟨Nat.le_of_ble_eq_true rfl, Nat.le_of_ble_eq_true rfl⟩ ?_
  refine k_putF C hnm 9 32 (by decide) vc_9 (by decide) tyX9 tyX9_ok nmX9 inXX9 wfl_693 rfl rfl (ty := .array .int) (by decide +kernel) rfl rfl (Nat.le_of_ble_eq_true rfl) (fs' := [.int 0, .ref (Xd X 158), .ref (Xd X 199), .ref (Xd X 610), .int 0, .ref (Xd X 611), .ref (Xd X 612), .int 0, .int 0, .ref (Xd X 613), .ref (Xd X 622), .ref (Xd X 623), .ref (Xd X 624), .int 0, .int 0, .int 0, .int 0, .int 0, .ref (Xd X 625), .ref (Xd X 686), .ref (Xd X 727), .ref (Xd X 728), .int 0, .ref (Xd X 729), .ref (Xd X 730), .int 0, .ref (Xd X 731), .ref (Xd X 732), .ref (Xd X 733), .int 0, .ref (Xd X 734), .ref (Xd X 735), .ref (Xd X 736), .int 0]) rfl dX9_init_186 ?_
  exact k_ret C hQ rfl (fun q _ => congrArg (fun e => k_up E 157 e q) (kT_o sh_157 rfl).symm) rfl rfl dX9_init_189
