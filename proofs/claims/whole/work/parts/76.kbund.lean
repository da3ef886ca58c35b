/-! the class's constructor -/
theorem dX8_init_0 : decode cX8_init 0 = .ok (.aload_n 0, 1) := by decide +kernel
theorem dX8_init_1 : decode cX8_init 1 = .ok (.invokespecial 1, 3) := by decide +kernel
theorem dX8_init_4 : decode cX8_init 4 = .ok (.aload_n 0, 1) := by decide +kernel
theorem dX8_init_5 : decode cX8_init 5 = .ok (.new 7, 3) := by decide +kernel
theorem dX8_init_8 : decode cX8_init 8 = .ok (.dup, 1) := by decide +kernel
theorem dX8_init_9 : decode cX8_init 9 = .ok (.invokespecial 9, 3) := by decide +kernel
theorem dX8_init_12 : decode cX8_init 12 = .ok (.putfield 10, 3) := by decide +kernel
theorem dX8_init_15 : decode cX8_init 15 = .ok (.aload_n 0, 1) := by decide +kernel
theorem dX8_init_16 : decode cX8_init 16 = .ok (.new 16, 3) := by decide +kernel
theorem dX8_init_19 : decode cX8_init 19 = .ok (.dup, 1) := by decide +kernel
theorem dX8_init_20 : decode cX8_init 20 = .ok (.invokespecial 18, 3) := by decide +kernel
theorem dX8_init_23 : decode cX8_init 23 = .ok (.putfield 19, 3) := by decide +kernel
theorem dX8_init_26 : decode cX8_init 26 = .ok (.aload_n 0, 1) := by decide +kernel
theorem dX8_init_27 : decode cX8_init 27 = .ok (.new 23, 3) := by decide +kernel
theorem dX8_init_30 : decode cX8_init 30 = .ok (.dup, 1) := by decide +kernel
theorem dX8_init_31 : decode cX8_init 31 = .ok (.invokespecial 25, 3) := by decide +kernel
theorem dX8_init_34 : decode cX8_init 34 = .ok (.putfield 26, 3) := by decide +kernel
theorem dX8_init_37 : decode cX8_init 37 = .ok (.aload_n 0, 1) := by decide +kernel
theorem dX8_init_38 : decode cX8_init 38 = .ok (.new 30, 3) := by decide +kernel
theorem dX8_init_41 : decode cX8_init 41 = .ok (.dup, 1) := by decide +kernel
theorem dX8_init_42 : decode cX8_init 42 = .ok (.invokespecial 32, 3) := by decide +kernel
theorem dX8_init_45 : decode cX8_init 45 = .ok (.putfield 33, 3) := by decide +kernel
theorem dX8_init_48 : decode cX8_init 48 = .ok (.aload_n 0, 1) := by decide +kernel
theorem dX8_init_49 : decode cX8_init 49 = .ok (.new 37, 3) := by decide +kernel
theorem dX8_init_52 : decode cX8_init 52 = .ok (.dup, 1) := by decide +kernel
theorem dX8_init_53 : decode cX8_init 53 = .ok (.aload_n 0, 1) := by decide +kernel
theorem dX8_init_54 : decode cX8_init 54 = .ok (.getfield 10, 3) := by decide +kernel
theorem dX8_init_57 : decode cX8_init 57 = .ok (.aload_n 0, 1) := by decide +kernel
theorem dX8_init_58 : decode cX8_init 58 = .ok (.getfield 33, 3) := by decide +kernel
theorem dX8_init_61 : decode cX8_init 61 = .ok (.invokespecial 39, 3) := by decide +kernel
theorem dX8_init_64 : decode cX8_init 64 = .ok (.putfield 42, 3) := by decide +kernel
theorem dX8_init_67 : decode cX8_init 67 = .ok (.aload_n 0, 1) := by decide +kernel
theorem dX8_init_68 : decode cX8_init 68 = .ok (.new 46, 3) := by decide +kernel
theorem dX8_init_71 : decode cX8_init 71 = .ok (.dup, 1) := by decide +kernel
theorem dX8_init_72 : decode cX8_init 72 = .ok (.aload_n 0, 1) := by decide +kernel
theorem dX8_init_73 : decode cX8_init 73 = .ok (.getfield 10, 3) := by decide +kernel
theorem dX8_init_76 : decode cX8_init 76 = .ok (.invokespecial 48, 3) := by decide +kernel
theorem dX8_init_79 : decode cX8_init 79 = .ok (.putfield 51, 3) := by decide +kernel
theorem dX8_init_82 : decode cX8_init 82 = .ok (.aload_n 0, 1) := by decide +kernel
theorem dX8_init_83 : decode cX8_init 83 = .ok (.new 55, 3) := by decide +kernel
theorem dX8_init_86 : decode cX8_init 86 = .ok (.dup, 1) := by decide +kernel
theorem dX8_init_87 : decode cX8_init 87 = .ok (.invokespecial 57, 3) := by decide +kernel
theorem dX8_init_90 : decode cX8_init 90 = .ok (.putfield 58, 3) := by decide +kernel
theorem dX8_init_93 : decode cX8_init 93 = .ok (.aload_n 0, 1) := by decide +kernel
theorem dX8_init_94 : decode cX8_init 94 = .ok (.new 55, 3) := by decide +kernel
theorem dX8_init_97 : decode cX8_init 97 = .ok (.dup, 1) := by decide +kernel
theorem dX8_init_98 : decode cX8_init 98 = .ok (.invokespecial 57, 3) := by decide +kernel
theorem dX8_init_101 : decode cX8_init 101 = .ok (.putfield 62, 3) := by decide +kernel
theorem dX8_init_104 : decode cX8_init 104 = .ok (.aload_n 0, 1) := by decide +kernel
theorem dX8_init_105 : decode cX8_init 105 = .ok (.new 55, 3) := by decide +kernel
theorem dX8_init_108 : decode cX8_init 108 = .ok (.dup, 1) := by decide +kernel
theorem dX8_init_109 : decode cX8_init 109 = .ok (.invokespecial 57, 3) := by decide +kernel
theorem dX8_init_112 : decode cX8_init 112 = .ok (.putfield 65, 3) := by decide +kernel
theorem dX8_init_115 : decode cX8_init 115 = .ok (.aload_n 0, 1) := by decide +kernel
theorem dX8_init_116 : decode cX8_init 116 = .ok (.new 68, 3) := by decide +kernel
theorem dX8_init_119 : decode cX8_init 119 = .ok (.dup, 1) := by decide +kernel
theorem dX8_init_120 : decode cX8_init 120 = .ok (.aload_n 0, 1) := by decide +kernel
theorem dX8_init_121 : decode cX8_init 121 = .ok (.getfield 10, 3) := by decide +kernel
theorem dX8_init_124 : decode cX8_init 124 = .ok (.aload_n 0, 1) := by decide +kernel
theorem dX8_init_125 : decode cX8_init 125 = .ok (.getfield 26, 3) := by decide +kernel
theorem dX8_init_128 : decode cX8_init 128 = .ok (.aload_n 0, 1) := by decide +kernel
theorem dX8_init_129 : decode cX8_init 129 = .ok (.getfield 51, 3) := by decide +kernel
theorem dX8_init_132 : decode cX8_init 132 = .ok (.invokespecial 70, 3) := by decide +kernel
theorem dX8_init_135 : decode cX8_init 135 = .ok (.putfield 73, 3) := by decide +kernel
theorem dX8_init_138 : decode cX8_init 138 = .ok (.return_, 1) := by decide +kernel
def rk_X8_0 : Room := { frames := 2, cells := 156, slots := 1333, locals := 40 }
theorem hdk_X8 : yX8_init.cls ≠ "java/lang/invoke/MethodHandle" ∧ yX8_init.cls ≠ "java/lang/invoke/VarHandle" ∧ (parseMethodDescriptor yX8_init.desc).map (fun d => d.parameters.length) = some 0 := by decide +kernel
theorem kc_X8_0 {l : Launch} {Gw : gW} (hI : kI Gw) {E : Nat → va_E} (hE : ∀ q, 0 < q → q < 157 → E q = kT Gw q) : kM l Gw yX8_init cX8_init 1 rk_X8_0 [.ref (Gw.2.2 0)] (k_up E 0 (.inr (8, [.null, .null, .null, .null, .null, .null, .null, .null, .null, .null]))) 1 (k_up E 0 (kT Gw 0)) 157 := by
  refine k_met hI (by decide +kernel) (Nat.le_of_ble_eq_true rfl) (fun X hG hXl C hnm hQ => ?_)
  subst hG
  refine k_aload_n C 0 dX8_init_0 rfl ?_
  refine k_objInit C wml_19 dX8_init_1 ⟨Nat.le_of_ble_eq_true rfl, Nat.le_of_ble_eq_true rfl⟩ ?_
  refine k_aload_n C 0 dX8_init_4 rfl ?_
  refine k_new C 6 (fs := [.null, .int 0]) vc_6 tyX6 tyX6_ok inXX6 wcl_22 wis_23 win_2 (fun j hj => match j, hj with | 0, _ => rfl | 1, _ => rfl | _ + 2, h => absurd h (by omega)) dX8_init_5 ⟨by decide +kernel, by decide +kernel⟩ ?_
  refine k_dup C dX8_init_8 ?_
  refine k_callN C 0 [] (kc_X6_1 C.2.2.2.2.2.2.1 (fun q h1 h2 => (k_up_ne _ _ (by omega)).trans (hE q (by omega) (by omega)))) wmn_24 wim_25 win_2 wcd_26 rfl hdk_X6 ⟨Nat.le_of_ble_eq_true rfl, Nat.le_of_ble_eq_true rfl⟩ ⟨by decide +kernel, by decide +kernel⟩ rfl rfl (Nat.le_of_ble_eq_true rfl) dX8_init_9 ?_
  refine k_ext (k_fold ((k_up_ne _ _ (by decide)).trans (hE 1 (by decide) (by decide)))) ?_
  refine k_putF C hnm 8 0 (by decide) vc_8 (by decide) tyX8 tyX8_ok nmX8 inXX8 wfl_259 rfl rfl (ty := .object "SlotBundler$Program") (by decide +kernel) rfl rfl (Nat.le_of_ble_eq_true rfl) (fs' := [.ref (Xd X 1), .null, .null, .null, .null, .null, .null, .null, .null, .null]) rfl dX8_init_12 ?_
  refine k_aload_n C 0 dX8_init_15 rfl ?_
  refine k_new C 3 (fs := [.null, .null, .null, .int 0, .int 0]) vc_3 tyX3 tyX3_ok inXX3 wcl_44 wis_45 win_3 (fun j hj => match j, hj with | 0, _ => rfl | 1, _ => rfl | 2, _ => rfl | 3, _ => rfl | 4, _ => rfl | _ + 5, h => absurd h (by omega)) dX8_init_16 ⟨by decide +kernel, by decide +kernel⟩ ?_
  refine k_dup C dX8_init_19 ?_
  refine k_callN C 0 [] (kc_X3_43 C.2.2.2.2.2.2.1 (fun q h1 h2 => (k_up_ne _ _ (by omega)).trans (hE q (by omega) (by omega)))) wmn_46 wim_47 win_3 wcd_48 rfl hdk_X3 ⟨Nat.le_of_ble_eq_true rfl, Nat.le_of_ble_eq_true rfl⟩ ⟨by decide +kernel, by decide +kernel⟩ rfl rfl (Nat.le_of_ble_eq_true rfl) dX8_init_20 ?_
  refine k_ext (k_fold ((k_up_ne _ _ (by decide)).trans (hE 43 (by decide) (by decide)))) ?_
  refine k_putF C hnm 8 1 (by decide) vc_8 (by decide) tyX8 tyX8_ok nmX8 inXX8 wfl_260 rfl rfl (ty := .object "SlotBundler$History") (by decide +kernel) rfl rfl (Nat.le_of_ble_eq_true rfl) (fs' := [.ref (Xd X 1), .ref (Xd X 43), .null, .null, .null, .null, .null, .null, .null, .null]) rfl dX8_init_23 ?_
  refine k_aload_n C 0 dX8_init_26 rfl ?_
  refine k_new C 1 (fs := [.null, .null, .null, .int 0, .int 0]) vc_1 tyX1 tyX1_ok inXX1 wcl_68 wis_69 win_4 (fun j hj => match j, hj with | 0, _ => rfl | 1, _ => rfl | 2, _ => rfl | 3, _ => rfl | 4, _ => rfl | _ + 5, h => absurd h (by omega)) dX8_init_27 ⟨by decide +kernel, by decide +kernel⟩ ?_
  refine k_dup C dX8_init_30 ?_
  refine k_callN C 0 [] (kc_X1_57 C.2.2.2.2.2.2.1 (fun q h1 h2 => (k_up_ne _ _ (by omega)).trans (hE q (by omega) (by omega)))) wmn_70 wim_71 win_4 wcd_72 rfl hdk_X1 ⟨Nat.le_of_ble_eq_true rfl, Nat.le_of_ble_eq_true rfl⟩ ⟨by decide +kernel, by decide +kernel⟩ rfl rfl (Nat.le_of_ble_eq_true rfl) dX8_init_31 ?_
  refine k_ext (k_fold ((k_up_ne _ _ (by decide)).trans (hE 57 (by decide) (by decide)))) ?_
  refine k_putF C hnm 8 2 (by decide) vc_8 (by decide) tyX8 tyX8_ok nmX8 inXX8 wfl_261 rfl rfl (ty := .object "SlotBundler$Blocks") (by decide +kernel) rfl rfl (Nat.le_of_ble_eq_true rfl) (fs' := [.ref (Xd X 1), .ref (Xd X 43), .ref (Xd X 57), .null, .null, .null, .null, .null, .null, .null]) rfl dX8_init_34 ?_
  refine k_aload_n C 0 dX8_init_37 rfl ?_
  refine k_new C 7 (fs := [.null, .null, .int 0]) vc_7 tyX7 tyX7_ok inXX7 wcl_98 wis_99 win_5 (fun j hj => match j, hj with | 0, _ => rfl | 1, _ => rfl | 2, _ => rfl | _ + 3, h => absurd h (by omega)) dX8_init_38 ⟨by decide +kernel, by decide +kernel⟩ ?_
  refine k_dup C dX8_init_41 ?_
  refine k_callN C 0 [] (kc_X7_61 C.2.2.2.2.2.2.1 (fun q h1 h2 => (k_up_ne _ _ (by omega)).trans (hE q (by omega) (by omega)))) wmn_100 wim_101 win_5 wcd_102 rfl hdk_X7 ⟨Nat.le_of_ble_eq_true rfl, Nat.le_of_ble_eq_true rfl⟩ ⟨by decide +kernel, by decide +kernel⟩ rfl rfl (Nat.le_of_ble_eq_true rfl) dX8_init_42 ?_
  refine k_ext (k_fold ((k_up_ne _ _ (by decide)).trans (hE 61 (by decide) (by decide)))) ?_
  refine k_putF C hnm 8 3 (by decide) vc_8 (by decide) tyX8 tyX8_ok nmX8 inXX8 wfl_262 rfl rfl (ty := .object "SlotBundler$Templates") (by decide +kernel) rfl rfl (Nat.le_of_ble_eq_true rfl) (fs' := [.ref (Xd X 1), .ref (Xd X 43), .ref (Xd X 57), .ref (Xd X 61), .null, .null, .null, .null, .null, .null]) rfl dX8_init_45 ?_
  refine k_aload_n C 0 dX8_init_48 rfl ?_
  refine k_new C 2 (fs := [.null, .null, .null, .null, .int 0, .int 0, .int 0, .int 0]) vc_2 tyX2 tyX2_ok inXX2 wcl_120 wis_121 win_6 (fun j hj => match j, hj with | 0, _ => rfl | 1, _ => rfl | 2, _ => rfl | 3, _ => rfl | 4, _ => rfl | 5, _ => rfl | 6, _ => rfl | 7, _ => rfl | _ + 8, h => absurd h (by omega)) dX8_init_49 ⟨by decide +kernel, by decide +kernel⟩ ?_
  refine k_dup C dX8_init_52 ?_
  refine k_aload_n C 0 dX8_init_53 rfl ?_
  refine k_getf C 8 0 (fs := [.ref (Xd X 1), .ref (Xd X 43), .ref (Xd X 57), .ref (Xd X 61), .null, .null, .null, .null, .null, .null]) (by decide) ((k_up_ne _ _ (by decide)).trans (k_up_self _ _ _)) vc_8 (by decide) inXX8 wfl_259 (v := .ref (Xd X 1)) rfl dX8_init_54 ?_
  refine k_aload_n C 0 dX8_init_57 rfl ?_
  refine k_getf C 8 3 (fs := [.ref (Xd X 1), .ref (Xd X 43), .ref (Xd X 57), .ref (Xd X 61), .null, .null, .null, .null, .null, .null]) (by decide) ((k_up_ne _ _ (by decide)).trans (k_up_self _ _ _)) vc_8 (by decide) inXX8 wfl_262 (v := .ref (Xd X 61)) rfl dX8_init_58 ?_
  refine k_callI C 2 [.ref (Xd X 1), .ref (Xd X 61)] (kc_X2_72 C.2.2.2.2.2.2.1 (fun q h1 h2 => (k_up_ne _ _ (by omega)).trans (hE q (by omega) (by omega)))) wml_122 wim_123 win_6 wcd_124 rfl hdk_X2 ⟨Nat.le_of_ble_eq_true rfl, Nat.le_of_ble_eq_true rfl⟩ ⟨by decide +kernel, by decide +kernel⟩ rfl rfl (Nat.le_of_ble_eq_true rfl) dX8_init_61 ?_
  refine k_ext (k_fold ((k_up_ne _ _ (by decide)).trans (hE 72 (by decide) (by decide)))) ?_
  refine k_putF C hnm 8 4 (by decide) vc_8 (by decide) tyX8 tyX8_ok nmX8 inXX8 wfl_263 rfl rfl (ty := .object "SlotBundler$Filler") (by decide +kernel) rfl rfl (Nat.le_of_ble_eq_true rfl) (fs' := [.ref (Xd X 1), .ref (Xd X 43), .ref (Xd X 57), .ref (Xd X 61), .ref (Xd X 72), .null, .null, .null, .null, .null]) rfl dX8_init_64 ?_
  refine k_aload_n C 0 dX8_init_67 rfl ?_
  refine k_new C 5 (fs := [.null, .null, .null, .null, .null, .null, .null, .null, .null, .null, .int 0, .int 0, .int 0]) vc_5 tyX5 tyX5_ok inXX5 wcl_161 wis_162 win_7 (fun j hj => match j, hj with | 0, _ => rfl | 1, _ => rfl | 2, _ => rfl | 3, _ => rfl | 4, _ => rfl | 5, _ => rfl | 6, _ => rfl | 7, _ => rfl | 8, _ => rfl | 9, _ => rfl | 10, _ => rfl | 11, _ => rfl | 12, _ => rfl | _ + 13, h => absurd h (by omega)) dX8_init_68 ⟨by decide +kernel, by decide +kernel⟩ ?_
  refine k_dup C dX8_init_71 ?_
  refine k_aload_n C 0 dX8_init_72 rfl ?_
  refine k_getf C 8 0 (fs := [.ref (Xd X 1), .ref (Xd X 43), .ref (Xd X 57), .ref (Xd X 61), .ref (Xd X 72), .null, .null, .null, .null, .null]) (by decide) ((k_up_ne _ _ (by decide)).trans (k_up_self _ _ _)) vc_8 (by decide) inXX8 wfl_259 (v := .ref (Xd X 1)) rfl dX8_init_73 ?_
  refine k_callI C 1 [.ref (Xd X 1)] (kc_X5_75 C.2.2.2.2.2.2.1 (fun q h1 h2 => (k_up_ne _ _ (by omega)).trans (hE q (by omega) (by omega)))) wml_163 wim_164 win_7 wcd_165 rfl hdk_X5 ⟨Nat.le_of_ble_eq_true rfl, Nat.le_of_ble_eq_true rfl⟩ ⟨by decide +kernel, by decide +kernel⟩ rfl rfl (Nat.le_of_ble_eq_true rfl) dX8_init_76 ?_
  refine k_ext (k_fold ((k_up_ne _ _ (by decide)).trans (hE 75 (by decide) (by decide)))) ?_
  refine k_putF C hnm 8 5 (by decide) vc_8 (by decide) tyX8 tyX8_ok nmX8 inXX8 wfl_264 rfl rfl (ty := .object "SlotBundler$Packing") (by decide +kernel) rfl rfl (Nat.le_of_ble_eq_true rfl) (fs' := [.ref (Xd X 1), .ref (Xd X 43), .ref (Xd X 57), .ref (Xd X 61), .ref (Xd X 72), .ref (Xd X 75), .null, .null, .null, .null]) rfl dX8_init_79 ?_
  refine k_aload_n C 0 dX8_init_82 rfl ?_
  refine k_new C 4 (fs := [.null, .null]) vc_4 tyX4 tyX4_ok inXX4 wcl_222 wis_223 win_8 (fun j hj => match j, hj with | 0, _ => rfl | 1, _ => rfl | _ + 2, h => absurd h (by omega)) dX8_init_83 ⟨by decide +kernel, by decide +kernel⟩ ?_
  refine k_dup C dX8_init_86 ?_
  refine k_callN C 0 [] (kc_X4_145 C.2.2.2.2.2.2.1 (fun q h1 h2 => (k_up_ne _ _ (by omega)).trans (hE q (by omega) (by omega)))) wmn_224 wim_225 win_8 wcd_226 rfl hdk_X4 ⟨Nat.le_of_ble_eq_true rfl, Nat.le_of_ble_eq_true rfl⟩ ⟨by decide +kernel, by decide +kernel⟩ rfl rfl (Nat.le_of_ble_eq_true rfl) dX8_init_87 ?_
  refine k_ext (k_fold ((k_up_ne _ _ (by decide)).trans (hE 145 (by decide) (by decide)))) ?_
  refine k_putF C hnm 8 6 (by decide) vc_8 (by decide) tyX8 tyX8_ok nmX8 inXX8 wfl_265 rfl rfl (ty := .object "SlotBundler$Machine") (by decide +kernel) rfl rfl (Nat.le_of_ble_eq_true rfl) (fs' := [.ref (Xd X 1), .ref (Xd X 43), .ref (Xd X 57), .ref (Xd X 61), .ref (Xd X 72), .ref (Xd X 75), .ref (Xd X 145), .null, .null, .null]) rfl dX8_init_90 ?_
  refine k_aload_n C 0 dX8_init_93 rfl ?_
  refine k_new C 4 (fs := [.null, .null]) vc_4 tyX4 tyX4_ok inXX4 wcl_222 wis_223 win_8 (fun j hj => match j, hj with | 0, _ => rfl | 1, _ => rfl | _ + 2, h => absurd h (by omega)) dX8_init_94 ⟨by decide +kernel, by decide +kernel⟩ ?_
  refine k_dup C dX8_init_97 ?_
  refine k_callN C 0 [] (kc_X4_148 C.2.2.2.2.2.2.1 (fun q h1 h2 => (k_up_ne _ _ (by omega)).trans (hE q (by omega) (by omega)))) wmn_224 wim_225 win_8 wcd_226 rfl hdk_X4 ⟨Nat.le_of_ble_eq_true rfl, Nat.le_of_ble_eq_true rfl⟩ ⟨by decide +kernel, by decide +kernel⟩ rfl rfl (Nat.le_of_ble_eq_true rfl) dX8_init_98 ?_
  refine k_ext (k_fold ((k_up_ne _ _ (by decide)).trans (hE 148 (by decide) (by decide)))) ?_
  refine k_putF C hnm 8 7 (by decide) vc_8 (by decide) tyX8 tyX8_ok nmX8 inXX8 wfl_266 rfl rfl (ty := .object "SlotBundler$Machine") (by decide +kernel) rfl rfl (Nat.le_of_ble_eq_true rfl) (fs' := [.ref (Xd X 1), .ref (Xd X 43), .ref (Xd X 57), .ref (Xd X 61), .ref (Xd X 72), .ref (Xd X 75), .ref (Xd X 145), .ref (Xd X 148), .null, .null]) rfl dX8_init_101 ?_
  refine k_aload_n C 0 dX8_init_104 rfl ?_
  refine k_new C 4 (fs := [.null, .null]) vc_4 tyX4 tyX4_ok inXX4 wcl_222 wis_223 win_8 (fun j hj => match j, hj with | 0, _ => rfl | 1, _ => rfl | _ + 2, h => absurd h (by omega)) dX8_init_105 ⟨by decide +kernel, by decide +kernel⟩ ?_
  refine k_dup C dX8_init_108 ?_
  refine k_callN C 0 [] (kc_X4_151 C.2.2.2.2.2.2.1 (fun q h1 h2 => (k_up_ne _ _ (by omega)).trans (hE q (by omega) (by omega)))) wmn_224 wim_225 win_8 wcd_226 rfl hdk_X4 ⟨Nat.le_of_ble_eq_true rfl, Nat.le_of_ble_eq_true rfl⟩ ⟨by decide +kernel, by decide +kernel⟩ rfl rfl (Nat.le_of_ble_eq_true rfl) dX8_init_109 ?_
  refine k_ext (k_fold ((k_up_ne _ _ (by decide)).trans (hE 151 (by decide) (by decide)))) ?_
  refine k_putF C hnm 8 8 (by decide) vc_8 (by decide) tyX8 tyX8_ok nmX8 inXX8 wfl_267 rfl rfl (ty := .object "SlotBundler$Machine") (by decide +kernel) rfl rfl (Nat.le_of_ble_eq_true rfl) (fs' := [.ref (Xd X 1), .ref (Xd X 43), .ref (Xd X 57), .ref (Xd X 61), .ref (Xd X 72), .ref (Xd X 75), .ref (Xd X 145), .ref (Xd X 148), .ref (Xd X 151), .null]) rfl dX8_init_112 ?_
  refine k_aload_n C 0 dX8_init_115 rfl ?_
  refine k_new C 0 (fs := [.null, .null, .null, .null, .null]) vc_0 tyX0 tyX0_ok inXX0 wcl_237 wis_238 win_9 (fun j hj => match j, hj with | 0, _ => rfl | 1, _ => rfl | 2, _ => rfl | 3, _ => rfl | 4, _ => rfl | _ + 5, h => absurd h (by omega)) dX8_init_116 ⟨by decide +kernel, by decide +kernel⟩ ?_
  refine k_dup C dX8_init_119 ?_
  refine k_aload_n C 0 dX8_init_120 rfl ?_
  refine k_getf C 8 0 (fs := [.ref (Xd X 1), .ref (Xd X 43), .ref (Xd X 57), .ref (Xd X 61), .ref (Xd X 72), .ref (Xd X 75), .ref (Xd X 145), .ref (Xd X 148), .ref (Xd X 151), .null]) (by decide) ((k_up_ne _ _ (by decide)).trans (k_up_self _ _ _)) vc_8 (by decide) inXX8 wfl_259 (v := .ref (Xd X 1)) rfl dX8_init_121 ?_
  refine k_aload_n C 0 dX8_init_124 rfl ?_
  refine k_getf C 8 2 (fs := [.ref (Xd X 1), .ref (Xd X 43), .ref (Xd X 57), .ref (Xd X 61), .ref (Xd X 72), .ref (Xd X 75), .ref (Xd X 145), .ref (Xd X 148), .ref (Xd X 151), .null]) (by decide) ((k_up_ne _ _ (by decide)).trans (k_up_self _ _ _)) vc_8 (by decide) inXX8 wfl_261 (v := .ref (Xd X 57)) rfl dX8_init_125 ?_
  refine k_aload_n C 0 dX8_init_128 rfl ?_
  refine k_getf C 8 5 (fs := [.ref (Xd X 1), .ref (Xd X 43), .ref (Xd X 57), .ref (Xd X 61), .ref (Xd X 72), .ref (Xd X 75), .ref (Xd X 145), .ref (Xd X 148), .ref (Xd X 151), .null]) (by decide) ((k_up_ne _ _ (by decide)).trans (k_up_self _ _ _)) vc_8 (by decide) inXX8 wfl_264 (v := .ref (Xd X 75)) rfl dX8_init_129 ?_
  refine k_callI C 3 [.ref (Xd X 1), .ref (Xd X 57), .ref (Xd X 75)] (kc_X0_154 C.2.2.2.2.2.2.1 (fun q h1 h2 => (k_up_ne _ _ (by omega)).trans (hE q (by omega) (by omega)))) wml_239 wim_240 win_9 wcd_241 rfl hdk_X0 ⟨Nat.le_of_ble_eq_true rfl, Nat.le_of_ble_eq_true rfl⟩ ⟨by decide +kernel, by decide +kernel⟩ rfl rfl (Nat.le_of_ble_eq_true rfl) dX8_init_132 ?_
  refine k_ext (k_fold ((k_up_ne _ _ (by decide)).trans (hE 154 (by decide) (by decide)))) ?_
  refine k_putF C hnm 8 9 (by decide) vc_8 (by decide) tyX8 tyX8_ok nmX8 inXX8 wfl_268 rfl rfl (ty := .object "SlotBundler$BlockRunner") (by decide +kernel) rfl rfl (Nat.le_of_ble_eq_true rfl) (fs' := [.ref (Xd X 1), .ref (Xd X 43), .ref (Xd X 57), .ref (Xd X 61), .ref (Xd X 72), .ref (Xd X 75), .ref (Xd X 145), .ref (Xd X 148), .ref (Xd X 151), .ref (Xd X 154)]) rfl dX8_init_135 ?_
  exact k_ret C hQ rfl (fun q _ => congrArg (fun e => k_up E 0 e q) (kT_o sh_0 rfl).symm) rfl rfl dX8_init_138
