theorem dX9_bundle_0 : decode cX9_bundle 0 = .ok (.aload_n 0, 1) := by decide +kernel
theorem dX9_bundle_1 : decode cX9_bundle 1 = .ok (.getfield 100, 3) := by decide +kernel
theorem dX9_bundle_4 : decode cX9_bundle 4 = .ok (.ifCond .ne 6, 3) := by decide +kernel
theorem dX9_bundle_7 : decode cX9_bundle 7 = .ok (.bipush (-5), 2) := by decide +kernel
theorem dX9_bundle_9 : decode cX9_bundle 9 = .ok (.ireturn, 1) := by decide +kernel
theorem dX9_bundle_10 : decode cX9_bundle 10 = .ok (.iload_n 1, 1) := by decide +kernel
theorem dX9_bundle_11 : decode cX9_bundle 11 = .ok (.iconst 0, 1) := by decide +kernel
theorem dX9_bundle_12 : decode cX9_bundle 12 = .ok (.aload_n 0, 1) := by decide +kernel
theorem dX9_bundle_13 : decode cX9_bundle 13 = .ok (.getfield 178, 3) := by decide +kernel
theorem dX9_bundle_16 : decode cX9_bundle 16 = .ok (.iconst 1, 1) := by decide +kernel
theorem dX9_bundle_17 : decode cX9_bundle 17 = .ok (.isub, 1) := by decide +kernel
theorem dX9_bundle_18 : decode cX9_bundle 18 = .ok (.invokestatic 77, 3) := by decide +kernel
theorem dX9_bundle_21 : decode cX9_bundle 21 = .ok (.ifCond .ne 5, 3) := by decide +kernel
theorem dX9_bundle_24 : decode cX9_bundle 24 = .ok (.iconst (-1), 1) := by decide +kernel
theorem dX9_bundle_25 : decode cX9_bundle 25 = .ok (.ireturn, 1) := by decide +kernel
theorem dX9_bundle_26 : decode cX9_bundle 26 = .ok (.iload_n 2, 1) := by decide +kernel
theorem dX9_bundle_27 : decode cX9_bundle 27 = .ok (.iconst 0, 1) := by decide +kernel
theorem dX9_bundle_28 : decode cX9_bundle 28 = .ok (.iconst 4, 1) := by decide +kernel
theorem dX9_bundle_29 : decode cX9_bundle 29 = .ok (.invokestatic 77, 3) := by decide +kernel
theorem dX9_bundle_32 : decode cX9_bundle 32 = .ok (.ifCond .ne 6, 3) := by decide +kernel
theorem dX9_bundle_35 : decode cX9_bundle 35 = .ok (.bipush (-2), 2) := by decide +kernel
theorem dX9_bundle_37 : decode cX9_bundle 37 = .ok (.ireturn, 1) := by decide +kernel
theorem dX9_bundle_38 : decode cX9_bundle 38 = .ok (.iload_n 2, 1) := by decide +kernel
theorem dX9_bundle_39 : decode cX9_bundle 39 = .ok (.iconst 3, 1) := by decide +kernel
theorem dX9_bundle_40 : decode cX9_bundle 40 = .ok (.if_icmp .ge 14, 3) := by decide +kernel
theorem dX9_bundle_43 : decode cX9_bundle 43 = .ok (.aload_n 0, 1) := by decide +kernel
theorem dX9_bundle_44 : decode cX9_bundle 44 = .ok (.getfield 41, 3) := by decide +kernel
theorem dX9_bundle_47 : decode cX9_bundle 47 = .ok (.iload_n 1, 1) := by decide +kernel
theorem dX9_bundle_48 : decode cX9_bundle 48 = .ok (.aaload, 1) := by decide +kernel
theorem dX9_bundle_49 : decode cX9_bundle 49 = .ok (.iload_n 2, 1) := by decide +kernel
theorem dX9_bundle_50 : decode cX9_bundle 50 = .ok (.iaload, 1) := by decide +kernel
theorem dX9_bundle_51 : decode cX9_bundle 51 = .ok (.goto 23, 3) := by decide +kernel
theorem dX9_bundle_54 : decode cX9_bundle 54 = .ok (.iload_n 2, 1) := by decide +kernel
theorem dX9_bundle_55 : decode cX9_bundle 55 = .ok (.iconst 3, 1) := by decide +kernel
theorem dX9_bundle_56 : decode cX9_bundle 56 = .ok (.if_icmp .ne 12, 3) := by decide +kernel
theorem dX9_bundle_59 : decode cX9_bundle 59 = .ok (.aload_n 0, 1) := by decide +kernel
theorem dX9_bundle_60 : decode cX9_bundle 60 = .ok (.getfield 47, 3) := by decide +kernel
theorem dX9_bundle_63 : decode cX9_bundle 63 = .ok (.iload_n 1, 1) := by decide +kernel
theorem dX9_bundle_64 : decode cX9_bundle 64 = .ok (.iaload, 1) := by decide +kernel
theorem dX9_bundle_65 : decode cX9_bundle 65 = .ok (.goto 9, 3) := by decide +kernel
theorem dX9_bundle_68 : decode cX9_bundle 68 = .ok (.aload_n 0, 1) := by decide +kernel
theorem dX9_bundle_69 : decode cX9_bundle 69 = .ok (.getfield 50, 3) := by decide +kernel
theorem dX9_bundle_72 : decode cX9_bundle 72 = .ok (.iload_n 1, 1) := by decide +kernel
theorem dX9_bundle_73 : decode cX9_bundle 73 = .ok (.iaload, 1) := by decide +kernel
theorem dX9_bundle_74 : decode cX9_bundle 74 = .ok (.ireturn, 1) := by decide +kernel
abbrev rm_X9_bundle : Room := { frames := 1, cells := 0, slots := 0, locals := 22 }
theorem w_X9_bundle_e {X : gX} {σ : sg} {p1 : Int32} {p2 : Int32} {r0 : Int32} (C : gC X cX9_bundle 3 RX9 (some .int) rm_X9_bundle)  (hQ : gQ X (qI (XG X) r0 σ)) (hf : f_X9_bundle σ p1 p2 = some r0) : G X 3 σ 0 [(0, .ref (Xd X 157)), (1, .int p1), (2, .int p2)] [] := by
  unfold f_X9_bundle at hf
  refine g_aload_n C 0 dX9_bundle_0 rfl ?_
  refine g_geti C 9 16 (by decide) sh_157 rfl vc_9 (by decide) inXX9 wfl_677 dX9_bundle_1 ?_
  refine g_if_ne C 10 hf dX9_bundle_4 (by decide) (fun hf => ?_) (fun hf => ?_)
  · refine g_bipush C (v := (-5)) dX9_bundle_7 rfl ?_
    have e0 : r0 = (-5 : Int32) := (Option.some.inj hf).symm
    exact g_iret C rfl hQ (by rw [e0]) rfl dX9_bundle_9
  · refine g_iload_n C 1 dX9_bundle_10 rfl ?_
    refine g_iconst C (v := 0) dX9_bundle_11 rfl ?_
    refine g_aload_n C 0 dX9_bundle_12 rfl ?_
    refine g_geti C 9 17 (by decide) sh_157 rfl vc_9 (by decide) inXX9 wfl_678 dX9_bundle_13 ?_
    refine g_iconst C (v := 1) dX9_bundle_16 rfl ?_
    refine g_isub C dX9_bundle_17 ?_
    obtain ⟨v18, h1, hf⟩ := g_bind hf
    refine g_callSi C 3 [.int p1, .int (0 : Int32), .int ((σ 157 17) - (1 : Int32))] (c_X9_isBetween (Xl X) (gC_I C)  h1) ⟨wml_771, wst_772, win_10, wcd_773⟩ hd_X9_isBetween ⟨rfl, rfl⟩ ⟨Nat.le_of_ble_eq_true rfl, Nat.le_of_ble_eq_true rfl⟩ rfl rfl (Nat.le_of_ble_eq_true rfl) dX9_bundle_18 ?_
    clear h1
    refine g_if_ne C 26 hf dX9_bundle_21 (by decide) (fun hf => ?_) (fun hf => ?_)
    · refine g_iconst C (v := (-1)) dX9_bundle_24 rfl ?_
      have e0 : r0 = (-1 : Int32) := (Option.some.inj hf).symm
      exact g_iret C rfl hQ (by rw [e0]) rfl dX9_bundle_25
    · refine g_iload_n C 2 dX9_bundle_26 rfl ?_
      refine g_iconst C (v := 0) dX9_bundle_27 rfl ?_
      refine g_iconst C (v := 4) dX9_bundle_28 rfl ?_
      obtain ⟨v29, h1, hf⟩ := g_bind hf
      refine g_callSi C 3 [.int p2, .int (0 : Int32), .int (4 : Int32)] (c_X9_isBetween (Xl X) (gC_I C)  h1) ⟨wml_771, wst_772, win_10, wcd_773⟩ hd_X9_isBetween ⟨rfl, rfl⟩ ⟨Nat.le_of_ble_eq_true rfl, Nat.le_of_ble_eq_true rfl⟩ rfl rfl (Nat.le_of_ble_eq_true rfl) dX9_bundle_29 ?_
      clear h1
      refine g_if_ne C 38 hf dX9_bundle_32 (by decide) (fun hf => ?_) (fun hf => ?_)
      · refine g_bipush C (v := (-2)) dX9_bundle_35 rfl ?_
        have e0 : r0 = (-2 : Int32) := (Option.some.inj hf).symm
        exact g_iret C rfl hQ (by rw [e0]) rfl dX9_bundle_37
      · refine g_iload_n C 2 dX9_bundle_38 rfl ?_
        refine g_iconst C (v := 3) dX9_bundle_39 rfl ?_
        refine g_icmp_ge C 54 hf dX9_bundle_40 (by decide) (fun hf => ?_) (fun hf => ?_)
        · refine g_iload_n C 2 dX9_bundle_54 rfl ?_
          refine g_iconst C (v := 3) dX9_bundle_55 rfl ?_
          refine g_icmp_ne C 68 hf dX9_bundle_56 (by decide) (fun hf => ?_) (fun hf => ?_)
          · refine g_aload_n C 0 dX9_bundle_59 rfl ?_
            refine g_getr C 9 20 (727) (by decide) sh_157 rfl vc_9 (by decide) inXX9 wfl_681 dX9_bundle_60 ?_
            refine g_iload_n C 1 dX9_bundle_63 rfl ?_
            obtain ⟨v64, h1, hf⟩ := g_bind hf
            refine g_iald C h1 dX9_bundle_64 ?_
            clear h1
            refine g_goto C 74 dX9_bundle_65 (by decide) ?_
            have e0 : r0 = v64 := (Option.some.inj hf).symm
            exact g_iret C rfl hQ (by rw [e0]) rfl dX9_bundle_74
          · refine g_aload_n C 0 dX9_bundle_68 rfl ?_
            refine g_getr C 9 21 (728) (by decide) sh_157 rfl vc_9 (by decide) inXX9 wfl_682 dX9_bundle_69 ?_
            refine g_iload_n C 1 dX9_bundle_72 rfl ?_
            obtain ⟨v73, h1, hf⟩ := g_bind hf
            refine g_iald C h1 dX9_bundle_73 ?_
            clear h1
            have e0 : r0 = v73 := (Option.some.inj hf).symm
            exact g_iret C rfl hQ (by rw [e0]) rfl dX9_bundle_74
        · refine g_aload_n C 0 dX9_bundle_43 rfl ?_
          refine g_getr C 9 18 (625) (by decide) sh_157 rfl vc_9 (by decide) inXX9 wfl_679 dX9_bundle_44 ?_
          refine g_iload_n C 1 dX9_bundle_47 rfl ?_
          obtain ⟨q48, h1, hf⟩ := g_bind hf
          refine g_aald C h1 dX9_bundle_48 ?_
          clear h1
          refine g_iload_n C 2 dX9_bundle_49 rfl ?_
          obtain ⟨v50, h1, hf⟩ := g_bind hf
          refine g_iald C h1 dX9_bundle_50 ?_
          clear h1
          refine g_goto C 74 dX9_bundle_51 (by decide) ?_
          have e0 : r0 = v50 := (Option.some.inj hf).symm
          exact g_iret C rfl hQ (by rw [e0]) rfl dX9_bundle_74
theorem c_X9_bundle (l : Launch) {Gw : gW} (hI : g_I Gw) {σ : sg} {p1 : Int32} {p2 : Int32} {r : Int32}  (hf : f_X9_bundle σ p1 p2 = some r) : gM l Gw yX9_bundle cX9_bundle 3 (some .int) rm_X9_bundle [.ref (Gw.2.2 157), .int p1, .int p2] σ (qI (Gw) r σ) := by
  refine g_met hI (by decide) (Nat.le_of_ble_eq_true rfl) (fun X h1 h2 C hQ => ?_)
  subst h1; subst h2
  exact w_X9_bundle_e C  hQ hf
theorem dX9_placeOf_0 : decode cX9_placeOf 0 = .ok (.aload_n 0, 1) := by decide +kernel
theorem dX9_placeOf_1 : decode cX9_placeOf 1 = .ok (.getfield 100, 3) := by decide +kernel
theorem dX9_placeOf_4 : decode cX9_placeOf 4 = .ok (.ifCond .ne 6, 3) := by decide +kernel
theorem dX9_placeOf_7 : decode cX9_placeOf 7 = .ok (.bipush (-5), 2) := by decide +kernel
theorem dX9_placeOf_9 : decode cX9_placeOf 9 = .ok (.ireturn, 1) := by decide +kernel
theorem dX9_placeOf_10 : decode cX9_placeOf 10 = .ok (.aload_n 0, 1) := by decide +kernel
theorem dX9_placeOf_11 : decode cX9_placeOf 11 = .ok (.iload_n 1, 1) := by decide +kernel
theorem dX9_placeOf_12 : decode cX9_placeOf 12 = .ok (.invokevirtual 111, 3) := by decide +kernel
theorem dX9_placeOf_15 : decode cX9_placeOf 15 = .ok (.ifCond .ne 5, 3) := by decide +kernel
theorem dX9_placeOf_18 : decode cX9_placeOf 18 = .ok (.iconst (-1), 1) := by decide +kernel
theorem dX9_placeOf_19 : decode cX9_placeOf 19 = .ok (.ireturn, 1) := by decide +kernel
theorem dX9_placeOf_20 : decode cX9_placeOf 20 = .ok (.iload_n 2, 1) := by decide +kernel
theorem dX9_placeOf_21 : decode cX9_placeOf 21 = .ok (.iconst 0, 1) := by decide +kernel
theorem dX9_placeOf_22 : decode cX9_placeOf 22 = .ok (.iconst 2, 1) := by decide +kernel
theorem dX9_placeOf_23 : decode cX9_placeOf 23 = .ok (.invokestatic 77, 3) := by decide +kernel
theorem dX9_placeOf_26 : decode cX9_placeOf 26 = .ok (.ifCond .eq 14, 3) := by decide +kernel
theorem dX9_placeOf_29 : decode cX9_placeOf 29 = .ok (.aload_n 0, 1) := by decide +kernel
theorem dX9_placeOf_30 : decode cX9_placeOf 30 = .ok (.getfield 44, 3) := by decide +kernel
theorem dX9_placeOf_33 : decode cX9_placeOf 33 = .ok (.iload_n 1, 1) := by decide +kernel
theorem dX9_placeOf_34 : decode cX9_placeOf 34 = .ok (.aaload, 1) := by decide +kernel
theorem dX9_placeOf_35 : decode cX9_placeOf 35 = .ok (.iload_n 2, 1) := by decide +kernel
theorem dX9_placeOf_36 : decode cX9_placeOf 36 = .ok (.iaload, 1) := by decide +kernel
theorem dX9_placeOf_37 : decode cX9_placeOf 37 = .ok (.goto 5, 3) := by decide +kernel
theorem dX9_placeOf_40 : decode cX9_placeOf 40 = .ok (.bipush (-2), 2) := by decide +kernel
theorem dX9_placeOf_42 : decode cX9_placeOf 42 = .ok (.ireturn, 1) := by decide +kernel
abbrev rm_X9_placeOf : Room := { frames := 2, cells := 0, slots := 0, locals := 43 }
theorem w_X9_placeOf_e {X : gX} {σ : sg} {p1 : Int32} {p2 : Int32} {r0 : Int32} (C : gC X cX9_placeOf 3 RX9 (some .int) rm_X9_placeOf)  (hQ : gQ X (qI (XG X) r0 σ)) (hf : f_X9_placeOf σ p1 p2 = some r0) : G X 3 σ 0 [(0, .ref (Xd X 157)), (1, .int p1), (2, .int p2)] [] := by
  unfold f_X9_placeOf at hf
  refine g_aload_n C 0 dX9_placeOf_0 rfl ?_
  refine g_geti C 9 16 (by decide) sh_157 rfl vc_9 (by decide) inXX9 wfl_677 dX9_placeOf_1 ?_
  refine g_if_ne C 10 hf dX9_placeOf_4 (by decide) (fun hf => ?_) (fun hf => ?_)
  · refine g_bipush C (v := (-5)) dX9_placeOf_7 rfl ?_
    have e0 : r0 = (-5 : Int32) := (Option.some.inj hf).symm
    exact g_iret C rfl hQ (by rw [e0]) rfl dX9_placeOf_9
  · refine g_aload_n C 0 dX9_placeOf_10 rfl ?_
    refine g_iload_n C 1 dX9_placeOf_11 rfl ?_
    obtain ⟨v12, h1, hf⟩ := g_bind hf
    refine g_callVi C 1 [.int p1] (c_X9_isThere (Xl X) (gC_I C)  h1) ⟨wml_792, wim_794, wsp_14, win_10, wcd_795⟩ (by decide) sh_157 vc_9 rfl hd_X9_isThere ⟨rfl, rfl⟩ ⟨Nat.le_of_ble_eq_true rfl, Nat.le_of_ble_eq_true rfl⟩ rfl rfl (Nat.le_of_ble_eq_true rfl) dX9_placeOf_12 ?_
    clear h1
    refine g_if_ne C 20 hf dX9_placeOf_15 (by decide) (fun hf => ?_) (fun hf => ?_)
    · refine g_iconst C (v := (-1)) dX9_placeOf_18 rfl ?_
      have e0 : r0 = (-1 : Int32) := (Option.some.inj hf).symm
      exact g_iret C rfl hQ (by rw [e0]) rfl dX9_placeOf_19
    · refine g_iload_n C 2 dX9_placeOf_20 rfl ?_
      refine g_iconst C (v := 0) dX9_placeOf_21 rfl ?_
      refine g_iconst C (v := 2) dX9_placeOf_22 rfl ?_
      obtain ⟨v23, h1, hf⟩ := g_bind hf
      refine g_callSi C 3 [.int p2, .int (0 : Int32), .int (2 : Int32)] (c_X9_isBetween (Xl X) (gC_I C)  h1) ⟨wml_771, wst_772, win_10, wcd_773⟩ hd_X9_isBetween ⟨rfl, rfl⟩ ⟨Nat.le_of_ble_eq_true rfl, Nat.le_of_ble_eq_true rfl⟩ rfl rfl (Nat.le_of_ble_eq_true rfl) dX9_placeOf_23 ?_
      clear h1
      refine g_if_eq C 40 hf dX9_placeOf_26 (by decide) (fun hf => ?_) (fun hf => ?_)
      · refine g_bipush C (v := (-2)) dX9_placeOf_40 rfl ?_
        have e0 : r0 = (-2 : Int32) := (Option.some.inj hf).symm
        exact g_iret C rfl hQ (by rw [e0]) rfl dX9_placeOf_42
      · refine g_aload_n C 0 dX9_placeOf_29 rfl ?_
        refine g_getr C 9 19 (686) (by decide) sh_157 rfl vc_9 (by decide) inXX9 wfl_680 dX9_placeOf_30 ?_
        refine g_iload_n C 1 dX9_placeOf_33 rfl ?_
        obtain ⟨q34, h1, hf⟩ := g_bind hf
        refine g_aald C h1 dX9_placeOf_34 ?_
        clear h1
        refine g_iload_n C 2 dX9_placeOf_35 rfl ?_
        obtain ⟨v36, h1, hf⟩ := g_bind hf
        refine g_iald C h1 dX9_placeOf_36 ?_
        clear h1
        refine g_goto C 42 dX9_placeOf_37 (by decide) ?_
        have e0 : r0 = v36 := (Option.some.inj hf).symm
        exact g_iret C rfl hQ (by rw [e0]) rfl dX9_placeOf_42
theorem c_X9_placeOf (l : Launch) {Gw : gW} (hI : g_I Gw) {σ : sg} {p1 : Int32} {p2 : Int32} {r : Int32}  (hf : f_X9_placeOf σ p1 p2 = some r) : gM l Gw yX9_placeOf cX9_placeOf 3 (some .int) rm_X9_placeOf [.ref (Gw.2.2 157), .int p1, .int p2] σ (qI (Gw) r σ) := by
  refine g_met hI (by decide) (Nat.le_of_ble_eq_true rfl) (fun X h1 h2 C hQ => ?_)
  subst h1; subst h2
  exact w_X9_placeOf_e C  hQ hf
theorem dX9_cyclesOf_0 : decode cX9_cyclesOf 0 = .ok (.iconst 0, 1) := by decide +kernel
theorem dX9_cyclesOf_1 : decode cX9_cyclesOf 1 = .ok (.istore_n 2, 1) := by decide +kernel
theorem dX9_cyclesOf_2 : decode cX9_cyclesOf 2 = .ok (.aload_n 0, 1) := by decide +kernel
theorem dX9_cyclesOf_3 : decode cX9_cyclesOf 3 = .ok (.getfield 26, 3) := by decide +kernel
theorem dX9_cyclesOf_6 : decode cX9_cyclesOf 6 = .ok (.iload_n 1, 1) := by decide +kernel
theorem dX9_cyclesOf_7 : decode cX9_cyclesOf 7 = .ok (.iaload, 1) := by decide +kernel
theorem dX9_cyclesOf_8 : decode cX9_cyclesOf 8 = .ok (.istore_n 3, 1) := by decide +kernel
theorem dX9_cyclesOf_9 : decode cX9_cyclesOf 9 = .ok (.iload_n 3, 1) := by decide +kernel
theorem dX9_cyclesOf_10 : decode cX9_cyclesOf 10 = .ok (.aload_n 0, 1) := by decide +kernel
theorem dX9_cyclesOf_11 : decode cX9_cyclesOf 11 = .ok (.getfield 26, 3) := by decide +kernel
theorem dX9_cyclesOf_14 : decode cX9_cyclesOf 14 = .ok (.iload_n 1, 1) := by decide +kernel
theorem dX9_cyclesOf_15 : decode cX9_cyclesOf 15 = .ok (.iconst 1, 1) := by decide +kernel
theorem dX9_cyclesOf_16 : decode cX9_cyclesOf 16 = .ok (.iadd, 1) := by decide +kernel
theorem dX9_cyclesOf_17 : decode cX9_cyclesOf 17 = .ok (.iaload, 1) := by decide +kernel
theorem dX9_cyclesOf_18 : decode cX9_cyclesOf 18 = .ok (.if_icmp .ge 38, 3) := by decide +kernel
theorem dX9_cyclesOf_21 : decode cX9_cyclesOf 21 = .ok (.aload_n 0, 1) := by decide +kernel
theorem dX9_cyclesOf_22 : decode cX9_cyclesOf 22 = .ok (.getfield 44, 3) := by decide +kernel
theorem dX9_cyclesOf_25 : decode cX9_cyclesOf 25 = .ok (.iload_n 3, 1) := by decide +kernel
theorem dX9_cyclesOf_26 : decode cX9_cyclesOf 26 = .ok (.aaload, 1) := by decide +kernel
theorem dX9_cyclesOf_27 : decode cX9_cyclesOf 27 = .ok (.iconst 2, 1) := by decide +kernel
theorem dX9_cyclesOf_28 : decode cX9_cyclesOf 28 = .ok (.iaload, 1) := by decide +kernel
theorem dX9_cyclesOf_29 : decode cX9_cyclesOf 29 = .ok (.aload_n 0, 1) := by decide +kernel
theorem dX9_cyclesOf_30 : decode cX9_cyclesOf 30 = .ok (.iload_n 3, 1) := by decide +kernel
theorem dX9_cyclesOf_31 : decode cX9_cyclesOf 31 = .ok (.invokevirtual 125, 3) := by decide +kernel
theorem dX9_cyclesOf_34 : decode cX9_cyclesOf 34 = .ok (.iadd, 1) := by decide +kernel
theorem dX9_cyclesOf_35 : decode cX9_cyclesOf 35 = .ok (.istore 4, 2) := by decide +kernel
theorem dX9_cyclesOf_37 : decode cX9_cyclesOf 37 = .ok (.iload 4, 2) := by decide +kernel
theorem dX9_cyclesOf_39 : decode cX9_cyclesOf 39 = .ok (.iload_n 2, 1) := by decide +kernel
theorem dX9_cyclesOf_40 : decode cX9_cyclesOf 40 = .ok (.if_icmp .le 8, 3) := by decide +kernel
theorem dX9_cyclesOf_43 : decode cX9_cyclesOf 43 = .ok (.iload 4, 2) := by decide +kernel
theorem dX9_cyclesOf_45 : decode cX9_cyclesOf 45 = .ok (.goto 4, 3) := by decide +kernel
theorem dX9_cyclesOf_48 : decode cX9_cyclesOf 48 = .ok (.iload_n 2, 1) := by decide +kernel
theorem dX9_cyclesOf_49 : decode cX9_cyclesOf 49 = .ok (.istore_n 2, 1) := by decide +kernel
theorem dX9_cyclesOf_50 : decode cX9_cyclesOf 50 = .ok (.iinc 3 1, 3) := by decide +kernel
theorem dX9_cyclesOf_53 : decode cX9_cyclesOf 53 = .ok (.goto (-44), 3) := by decide +kernel
theorem dX9_cyclesOf_56 : decode cX9_cyclesOf 56 = .ok (.iload_n 2, 1) := by decide +kernel
theorem dX9_cyclesOf_57 : decode cX9_cyclesOf 57 = .ok (.ireturn, 1) := by decide +kernel
abbrev rm_X9_cyclesOf : Room := { frames := 2, cells := 0, slots := 0, locals := 42 }
theorem w_X9_cyclesOf_49 {X : gX} {σ : sg} {p1 : Int32} {x3 : Int32} {t0 : Int32} {r0 : Int32} {r1 : ((Int32 × Int32) ⊕ Int32)} (C : gC X cX9_cyclesOf 5 RX9 (some .int) rm_X9_cyclesOf)  (hQ : gQ X (qI (XG X) r0 σ)) (A1 : ∀ b, r1 = .inl b → G X 5 σ 9 [(0, .ref (Xd X 157)), (1, .int p1), (2, .int b.1), (3, .int b.2)] []) (B1 : ∀ b, r1 = .inr b → b = r0) (hf : J_X9_cyclesOf_49 σ p1 x3 t0 = some r1) : G X 5 σ 49 [(0, .ref (Xd X 157)), (1, .int p1), (3, .int x3)] [.int t0] := by
  unfold J_X9_cyclesOf_49 at hf
  refine g_istore_n C (lv' := [(2, .int t0), (0, .ref (Xd X 157)), (1, .int p1), (3, .int x3)]) dX9_cyclesOf_49 (by decide) rfl ?_
  refine g_iinc C (v := x3 + (1 : Int32)) (lv' := [(3, .int (x3 + (1 : Int32))), (2, .int t0), (0, .ref (Xd X 157)), (1, .int p1)]) 3 dX9_cyclesOf_50 rfl rfl (by decide) rfl ?_
  refine g_goto C 9 dX9_cyclesOf_53 (by decide) ?_
  refine g_sub [2, 3, 1, 0] rfl ?_
  exact A1 (t0, x3 + (1 : Int32)) (Option.some.inj hf).symm
theorem w_X9_cyclesOf_9 {X : gX} {σ : sg} {p1 : Int32} {x2 : Int32} {x3 : Int32} {r0 : Int32} {r1 : ((Int32 × Int32) ⊕ Int32)} (C : gC X cX9_cyclesOf 5 RX9 (some .int) rm_X9_cyclesOf)  (hQ : gQ X (qI (XG X) r0 σ)) (A1 : ∀ b, r1 = .inl b → G X 5 σ 9 [(0, .ref (Xd X 157)), (1, .int p1), (2, .int b.1), (3, .int b.2)] []) (B1 : ∀ b, r1 = .inr b → b = r0) (hf : B_X9_cyclesOf_9 σ p1 x2 x3 = some r1) : G X 5 σ 9 [(0, .ref (Xd X 157)), (1, .int p1), (2, .int x2), (3, .int x3)] [] := by
  unfold B_X9_cyclesOf_9 at hf
  refine g_iload_n C 3 dX9_cyclesOf_9 rfl ?_
  refine g_aload_n C 0 dX9_cyclesOf_10 rfl ?_
  refine g_getr C 9 6 (612) (by decide) sh_157 rfl vc_9 (by decide) inXX9 wfl_667 dX9_cyclesOf_11 ?_
  refine g_iload_n C 1 dX9_cyclesOf_14 rfl ?_
  refine g_iconst C (v := 1) dX9_cyclesOf_15 rfl ?_
  refine g_iadd C dX9_cyclesOf_16 ?_
  obtain ⟨v17, h1, hf⟩ := g_bind hf
  refine g_iald C h1 dX9_cyclesOf_17 ?_
  clear h1
  refine g_icmp_ge C 56 hf dX9_cyclesOf_18 (by decide) (fun hf => ?_) (fun hf => ?_)
  · refine g_iload_n C 2 dX9_cyclesOf_56 rfl ?_
    have e0 : r0 = x2 := (B1 _ (Option.some.inj hf).symm).symm
    exact g_iret C rfl hQ (by rw [e0]) rfl dX9_cyclesOf_57
  · refine g_aload_n C 0 dX9_cyclesOf_21 rfl ?_
    refine g_getr C 9 19 (686) (by decide) sh_157 rfl vc_9 (by decide) inXX9 wfl_680 dX9_cyclesOf_22 ?_
    refine g_iload_n C 3 dX9_cyclesOf_25 rfl ?_
    obtain ⟨q26, h1, hf⟩ := g_bind hf
    refine g_aald C h1 dX9_cyclesOf_26 ?_
    clear h1
    refine g_iconst C (v := 2) dX9_cyclesOf_27 rfl ?_
    obtain ⟨v28, h1, hf⟩ := g_bind hf
    refine g_iald C h1 dX9_cyclesOf_28 ?_
    clear h1
    refine g_aload_n C 0 dX9_cyclesOf_29 rfl ?_
    refine g_iload_n C 3 dX9_cyclesOf_30 rfl ?_
    obtain ⟨v31, h1, hf⟩ := g_bind hf
    refine g_callVi C 1 [.int x3] (c_X9_latency (Xl X) (gC_I C)  h1) ⟨wml_864, wim_866, wsp_24, win_10, wcd_867⟩ (by decide) sh_157 vc_9 rfl hd_X9_latency ⟨rfl, rfl⟩ ⟨Nat.le_of_ble_eq_true rfl, Nat.le_of_ble_eq_true rfl⟩ rfl rfl (Nat.le_of_ble_eq_true rfl) dX9_cyclesOf_31 ?_
    clear h1
    refine g_iadd C dX9_cyclesOf_34 ?_
    refine g_istore C (lv' := [(4, .int (v28 + v31)), (0, .ref (Xd X 157)), (1, .int p1), (2, .int x2), (3, .int x3)]) dX9_cyclesOf_35 (by decide) rfl ?_
    refine g_iload C 0 dX9_cyclesOf_37 rfl ?_
    refine g_iload_n C 3 dX9_cyclesOf_39 rfl ?_
    refine g_icmp_le C 48 hf dX9_cyclesOf_40 (by decide) (fun hf => ?_) (fun hf => ?_)
    · refine g_iload_n C 3 dX9_cyclesOf_48 rfl ?_
      refine g_sub [1, 2, 4] rfl ?_
      exact w_X9_cyclesOf_49 C  hQ A1 B1 hf
    · refine g_iload C 0 dX9_cyclesOf_43 rfl ?_
      refine g_goto C 49 dX9_cyclesOf_45 (by decide) ?_
      refine g_sub [1, 2, 4] rfl ?_
      exact w_X9_cyclesOf_49 C  hQ A1 B1 hf
theorem wl_X9_cyclesOf_9 {X : gX} {σ : sg} {p1 : Int32} {r0 : Int32} (C : gC X cX9_cyclesOf 5 RX9 (some .int) rm_X9_cyclesOf)  (hQ : gQ X (qI (XG X) r0 σ))  {n : Nat} {a : (Int32 × Int32)} (hf : L_X9_cyclesOf_9 σ p1 n a = some r0) : G X 5 σ 9 [(0, .ref (Xd X 157)), (1, .int p1), (2, .int a.1), (3, .int a.2)] [] := by
  unfold L_X9_cyclesOf_9 at hf
  have key := g_loop_ind (res := r0) (f := fun a => B_X9_cyclesOf_9 σ p1 a.1 a.2) (P := fun a => G X 5 σ 9 [(0, .ref (Xd X 157)), (1, .int p1), (2, .int a.1), (3, .int a.2)] []) (fun a r1 h1 k1 k2 => w_X9_cyclesOf_9 (x2 := a.1) (x3 := a.2) C  hQ  k1 k2 h1)
  exact key n a hf
theorem w_X9_cyclesOf_e {X : gX} {σ : sg} {p1 : Int32} {r0 : Int32} (C : gC X cX9_cyclesOf 5 RX9 (some .int) rm_X9_cyclesOf)  (hQ : gQ X (qI (XG X) r0 σ)) (hf : f_X9_cyclesOf σ p1 = some r0) : G X 5 σ 0 [(0, .ref (Xd X 157)), (1, .int p1)] [] := by
  unfold f_X9_cyclesOf at hf
  refine g_iconst C (v := 0) dX9_cyclesOf_0 rfl ?_
  refine g_istore_n C (lv' := [(2, .int (0 : Int32)), (0, .ref (Xd X 157)), (1, .int p1)]) dX9_cyclesOf_1 (by decide) rfl ?_
  refine g_aload_n C 1 dX9_cyclesOf_2 rfl ?_
  refine g_getr C 9 6 (612) (by decide) sh_157 rfl vc_9 (by decide) inXX9 wfl_667 dX9_cyclesOf_3 ?_
  refine g_iload_n C 2 dX9_cyclesOf_6 rfl ?_
  obtain ⟨v7, h1, hf⟩ := g_bind hf
  refine g_iald C h1 dX9_cyclesOf_7 ?_
  clear h1
  refine g_istore_n C (lv' := [(3, .int v7), (2, .int (0 : Int32)), (0, .ref (Xd X 157)), (1, .int p1)]) dX9_cyclesOf_8 (by decide) rfl ?_
  refine g_sub [2, 3, 1, 0] rfl ?_
  exact wl_X9_cyclesOf_9 (a := ((0 : Int32), v7)) C  hQ  hf
theorem c_X9_cyclesOf (l : Launch) {Gw : gW} (hI : g_I Gw) {σ : sg} {p1 : Int32} {r : Int32}  (hf : f_X9_cyclesOf σ p1 = some r) : gM l Gw yX9_cyclesOf cX9_cyclesOf 5 (some .int) rm_X9_cyclesOf [.ref (Gw.2.2 157), .int p1] σ (qI (Gw) r σ) := by
  refine g_met hI (by decide) (Nat.le_of_ble_eq_true rfl) (fun X h1 h2 C hQ => ?_)
  subst h1; subst h2
  exact w_X9_cyclesOf_e C  hQ hf
theorem dX9_cycles_0 : decode cX9_cycles 0 = .ok (.aload_n 0, 1) := by decide +kernel
theorem dX9_cycles_1 : decode cX9_cycles 1 = .ok (.getfield 100, 3) := by decide +kernel
theorem dX9_cycles_4 : decode cX9_cycles 4 = .ok (.ifCond .ne 6, 3) := by decide +kernel
theorem dX9_cycles_7 : decode cX9_cycles 7 = .ok (.bipush (-5), 2) := by decide +kernel
theorem dX9_cycles_9 : decode cX9_cycles 9 = .ok (.ireturn, 1) := by decide +kernel
theorem dX9_cycles_10 : decode cX9_cycles 10 = .ok (.aload_n 0, 1) := by decide +kernel
theorem dX9_cycles_11 : decode cX9_cycles 11 = .ok (.invokevirtual 144, 3) := by decide +kernel
theorem dX9_cycles_14 : decode cX9_cycles 14 = .ok (.iload_n 1, 1) := by decide +kernel
theorem dX9_cycles_15 : decode cX9_cycles 15 = .ok (.iconst 0, 1) := by decide +kernel
theorem dX9_cycles_16 : decode cX9_cycles 16 = .ok (.aload_n 0, 1) := by decide +kernel
theorem dX9_cycles_17 : decode cX9_cycles 17 = .ok (.getfield 134, 3) := by decide +kernel
theorem dX9_cycles_20 : decode cX9_cycles 20 = .ok (.iconst 1, 1) := by decide +kernel
theorem dX9_cycles_21 : decode cX9_cycles 21 = .ok (.isub, 1) := by decide +kernel
theorem dX9_cycles_22 : decode cX9_cycles 22 = .ok (.invokestatic 77, 3) := by decide +kernel
theorem dX9_cycles_25 : decode cX9_cycles 25 = .ok (.ifCond .eq 11, 3) := by decide +kernel
theorem dX9_cycles_28 : decode cX9_cycles 28 = .ok (.aload_n 0, 1) := by decide +kernel
theorem dX9_cycles_29 : decode cX9_cycles 29 = .ok (.iload_n 1, 1) := by decide +kernel
theorem dX9_cycles_30 : decode cX9_cycles 30 = .ok (.invokevirtual 188, 3) := by decide +kernel
theorem dX9_cycles_33 : decode cX9_cycles 33 = .ok (.goto 4, 3) := by decide +kernel
theorem dX9_cycles_36 : decode cX9_cycles 36 = .ok (.iconst (-1), 1) := by decide +kernel
theorem dX9_cycles_37 : decode cX9_cycles 37 = .ok (.ireturn, 1) := by decide +kernel
abbrev rm_X9_cycles : Room := { frames := 4, cells := 0, slots := 0, locals := 86 }
theorem w_X9_cycles_e {X : gX} {σ : sg} {p1 : Int32} {r0 : (Int32 × sg)} (C : gC X cX9_cycles 2 RX9 (some .int) rm_X9_cycles)  (hQ : gQ X (qI (XG X) r0.1 r0.2)) (hf : f_X9_cycles σ p1 = some r0) : G X 2 σ 0 [(0, .ref (Xd X 157)), (1, .int p1)] [] := by
  unfold f_X9_cycles at hf
  refine g_aload_n C 0 dX9_cycles_0 rfl ?_
  refine g_geti C 9 16 (by decide) sh_157 rfl vc_9 (by decide) inXX9 wfl_677 dX9_cycles_1 ?_
  refine g_if_ne C 10 hf dX9_cycles_4 (by decide) (fun hf => ?_) (fun hf => ?_)
  · refine g_bipush C (v := (-5)) dX9_cycles_7 rfl ?_
    have e0 : r0 = ((-5 : Int32), σ) := (Option.some.inj hf).symm
    exact g_iret C rfl hQ (by rw [e0]) rfl dX9_cycles_9
  · refine g_aload_n C 0 dX9_cycles_10 rfl ?_
    obtain ⟨s11, h1, hf⟩ := g_bind hf
    refine g_callVv C 0 [] (c_X9_findBlocks (Xl X) (gC_I C)  h1) ⟨wml_828, wim_830, wsp_18, win_10, wcd_831⟩ (by decide) sh_157 vc_9 rfl hd_X9_findBlocks ⟨rfl, rfl⟩ ⟨Nat.le_of_ble_eq_true rfl, Nat.le_of_ble_eq_true rfl⟩ rfl rfl (Nat.le_of_ble_eq_true rfl) dX9_cycles_11 ?_
    clear h1
    refine g_iload_n C 1 dX9_cycles_14 rfl ?_
    refine g_iconst C (v := 0) dX9_cycles_15 rfl ?_
    refine g_aload_n C 0 dX9_cycles_16 rfl ?_
    refine g_geti C 9 7 (by decide) sh_157 rfl vc_9 (by decide) inXX9 wfl_668 dX9_cycles_17 ?_
    refine g_iconst C (v := 1) dX9_cycles_20 rfl ?_
    refine g_isub C dX9_cycles_21 ?_
    obtain ⟨v22, h1, hf⟩ := g_bind hf
    refine g_callSi C 3 [.int p1, .int (0 : Int32), .int ((s11 157 7) - (1 : Int32))] (c_X9_isBetween (Xl X) (gC_I C)  h1) ⟨wml_771, wst_772, win_10, wcd_773⟩ hd_X9_isBetween ⟨rfl, rfl⟩ ⟨Nat.le_of_ble_eq_true rfl, Nat.le_of_ble_eq_true rfl⟩ rfl rfl (Nat.le_of_ble_eq_true rfl) dX9_cycles_22 ?_
    clear h1
    refine g_if_eq C 36 hf dX9_cycles_25 (by decide) (fun hf => ?_) (fun hf => ?_)
    · refine g_iconst C (v := (-1)) dX9_cycles_36 rfl ?_
      have e0 : r0 = ((-1 : Int32), s11) := (Option.some.inj hf).symm
      exact g_iret C rfl hQ (by rw [e0]) rfl dX9_cycles_37
    · refine g_aload_n C 0 dX9_cycles_28 rfl ?_
      refine g_iload_n C 1 dX9_cycles_29 rfl ?_
      obtain ⟨v30, h1, hf⟩ := g_bind hf
      refine g_callVi C 1 [.int p1] (c_X9_cyclesOf (Xl X) (gC_I C)  h1) ⟨wml_934, wim_936, wsp_30, win_10, wcd_937⟩ (by decide) sh_157 vc_9 rfl hd_X9_cyclesOf ⟨rfl, rfl⟩ ⟨Nat.le_of_ble_eq_true rfl, Nat.le_of_ble_eq_true rfl⟩ rfl rfl (Nat.le_of_ble_eq_true rfl) dX9_cycles_30 ?_
      clear h1
      refine g_goto C 37 dX9_cycles_33 (by decide) ?_
      have e0 : r0 = (v30, s11) := (Option.some.inj hf).symm
      exact g_iret C rfl hQ (by rw [e0]) rfl dX9_cycles_37
theorem c_X9_cycles (l : Launch) {Gw : gW} (hI : g_I Gw) {σ : sg} {p1 : Int32} {r : (Int32 × sg)}  (hf : f_X9_cycles σ p1 = some r) : gM l Gw yX9_cycles cX9_cycles 2 (some .int) rm_X9_cycles [.ref (Gw.2.2 157), .int p1] σ (qI (Gw) r.1 r.2) := by
  refine g_met hI (by decide) (Nat.le_of_ble_eq_true rfl) (fun X h1 h2 C hQ => ?_)
  subst h1; subst h2
  exact w_X9_cycles_e C  hQ hf
theorem dX9_emptySlots_0 : decode cX9_emptySlots 0 = .ok (.aload_n 0, 1) := by decide +kernel
theorem dX9_emptySlots_1 : decode cX9_emptySlots 1 = .ok (.getfield 100, 3) := by decide +kernel
theorem dX9_emptySlots_4 : decode cX9_emptySlots 4 = .ok (.ifCond .eq 17, 3) := by decide +kernel
theorem dX9_emptySlots_7 : decode cX9_emptySlots 7 = .ok (.iconst 3, 1) := by decide +kernel
theorem dX9_emptySlots_8 : decode cX9_emptySlots 8 = .ok (.aload_n 0, 1) := by decide +kernel
theorem dX9_emptySlots_9 : decode cX9_emptySlots 9 = .ok (.getfield 178, 3) := by decide +kernel
theorem dX9_emptySlots_12 : decode cX9_emptySlots 12 = .ok (.imul, 1) := by decide +kernel
theorem dX9_emptySlots_13 : decode cX9_emptySlots 13 = .ok (.aload_n 0, 1) := by decide +kernel
theorem dX9_emptySlots_14 : decode cX9_emptySlots 14 = .ok (.getfield 89, 3) := by decide +kernel
theorem dX9_emptySlots_17 : decode cX9_emptySlots 17 = .ok (.isub, 1) := by decide +kernel
theorem dX9_emptySlots_18 : decode cX9_emptySlots 18 = .ok (.goto 5, 3) := by decide +kernel
theorem dX9_emptySlots_21 : decode cX9_emptySlots 21 = .ok (.bipush (-5), 2) := by decide +kernel
theorem dX9_emptySlots_23 : decode cX9_emptySlots 23 = .ok (.ireturn, 1) := by decide +kernel
abbrev rm_X9_emptySlots : Room := { frames := 0, cells := 0, slots := 0, locals := 0 }
theorem w_X9_emptySlots_e {X : gX} {σ : sg}  {r0 : Int32} (C : gC X cX9_emptySlots 1 RX9 (some .int) rm_X9_emptySlots)  (hQ : gQ X (qI (XG X) r0 σ)) (hf : f_X9_emptySlots σ = some r0) : G X 1 σ 0 [(0, .ref (Xd X 157))] [] := by
  unfold f_X9_emptySlots at hf
  refine g_aload_n C 0 dX9_emptySlots_0 rfl ?_
  refine g_geti C 9 16 (by decide) sh_157 rfl vc_9 (by decide) inXX9 wfl_677 dX9_emptySlots_1 ?_
  refine g_if_eq C 21 hf dX9_emptySlots_4 (by decide) (fun hf => ?_) (fun hf => ?_)
  · refine g_bipush C (v := (-5)) dX9_emptySlots_21 rfl ?_
    have e0 : r0 = (-5 : Int32) := (Option.some.inj hf).symm
    exact g_iret C rfl hQ (by rw [e0]) rfl dX9_emptySlots_23
  · refine g_iconst C (v := 3) dX9_emptySlots_7 rfl ?_
    refine g_aload_n C 0 dX9_emptySlots_8 rfl ?_
    refine g_geti C 9 17 (by decide) sh_157 rfl vc_9 (by decide) inXX9 wfl_678 dX9_emptySlots_9 ?_
    refine g_imul C dX9_emptySlots_12 ?_
    refine g_aload_n C 0 dX9_emptySlots_13 rfl ?_
    refine g_geti C 9 0 (by decide) sh_157 rfl vc_9 (by decide) inXX9 wfl_661 dX9_emptySlots_14 ?_
    refine g_isub C dX9_emptySlots_17 ?_
    refine g_goto C 23 dX9_emptySlots_18 (by decide) ?_
    have e0 : r0 = ((3 : Int32) * (σ 157 17)) - (σ 157 0) := (Option.some.inj hf).symm
    exact g_iret C rfl hQ (by rw [e0]) rfl dX9_emptySlots_23
theorem c_X9_emptySlots (l : Launch) {Gw : gW} (hI : g_I Gw) {σ : sg}  {r : Int32}  (hf : f_X9_emptySlots σ = some r) : gM l Gw yX9_emptySlots cX9_emptySlots 1 (some .int) rm_X9_emptySlots [.ref (Gw.2.2 157)] σ (qI (Gw) r σ) := by
  refine g_met hI (by decide) (Nat.le_of_ble_eq_true rfl) (fun X h1 h2 C hQ => ?_)
  subst h1; subst h2
  exact w_X9_emptySlots_e C  hQ hf
theorem dX9_search_0 : decode cX9_search 0 = .ok (.iload_n 1, 1) := by decide +kernel
theorem dX9_search_1 : decode cX9_search 1 = .ok (.iload_n 3, 1) := by decide +kernel
theorem dX9_search_2 : decode cX9_search 2 = .ok (.if_icmp .ne 26, 3) := by decide +kernel
theorem dX9_search_5 : decode cX9_search 5 = .ok (.aload_n 0, 1) := by decide +kernel
theorem dX9_search_6 : decode cX9_search 6 = .ok (.iload 4, 2) := by decide +kernel
theorem dX9_search_8 : decode cX9_search 8 = .ok (.aload_n 0, 1) := by decide +kernel
theorem dX9_search_9 : decode cX9_search 9 = .ok (.getfield 191, 3) := by decide +kernel
theorem dX9_search_12 : decode cX9_search 12 = .ok (.if_icmp .ge 8, 3) := by decide +kernel
theorem dX9_search_15 : decode cX9_search 15 = .ok (.iload 4, 2) := by decide +kernel
theorem dX9_search_17 : decode cX9_search 17 = .ok (.goto 7, 3) := by decide +kernel
theorem dX9_search_20 : decode cX9_search 20 = .ok (.aload_n 0, 1) := by decide +kernel
theorem dX9_search_21 : decode cX9_search 21 = .ok (.getfield 191, 3) := by decide +kernel
theorem dX9_search_24 : decode cX9_search 24 = .ok (.putfield 191, 3) := by decide +kernel
theorem dX9_search_27 : decode cX9_search 27 = .ok (.return_, 1) := by decide +kernel
theorem dX9_search_28 : decode cX9_search 28 = .ok (.iconst 0, 1) := by decide +kernel
theorem dX9_search_29 : decode cX9_search 29 = .ok (.istore 6, 2) := by decide +kernel
theorem dX9_search_31 : decode cX9_search 31 = .ok (.iload 6, 2) := by decide +kernel
theorem dX9_search_33 : decode cX9_search 33 = .ok (.aload_n 0, 1) := by decide +kernel
theorem dX9_search_34 : decode cX9_search 34 = .ok (.getfield 154, 3) := by decide +kernel
theorem dX9_search_37 : decode cX9_search 37 = .ok (.if_icmp .ge 55, 3) := by decide +kernel
theorem dX9_search_40 : decode cX9_search 40 = .ok (.iload 4, 2) := by decide +kernel
theorem dX9_search_42 : decode cX9_search 42 = .ok (.iload 5, 2) := by decide +kernel
theorem dX9_search_44 : decode cX9_search 44 = .ok (.if_icmp .ge 48, 3) := by decide +kernel
theorem dX9_search_47 : decode cX9_search 47 = .ok (.iload 4, 2) := by decide +kernel
theorem dX9_search_49 : decode cX9_search 49 = .ok (.iconst 1, 1) := by decide +kernel
theorem dX9_search_50 : decode cX9_search 50 = .ok (.iadd, 1) := by decide +kernel
theorem dX9_search_51 : decode cX9_search 51 = .ok (.aload_n 0, 1) := by decide +kernel
theorem dX9_search_52 : decode cX9_search 52 = .ok (.getfield 191, 3) := by decide +kernel
theorem dX9_search_55 : decode cX9_search 55 = .ok (.if_icmp .ge 37, 3) := by decide +kernel
theorem dX9_search_58 : decode cX9_search 58 = .ok (.aload_n 0, 1) := by decide +kernel
theorem dX9_search_59 : decode cX9_search 59 = .ok (.iload 6, 2) := by decide +kernel
theorem dX9_search_61 : decode cX9_search 61 = .ok (.iload_n 1, 1) := by decide +kernel
theorem dX9_search_62 : decode cX9_search 62 = .ok (.iload_n 2, 1) := by decide +kernel
theorem dX9_search_63 : decode cX9_search 63 = .ok (.iload_n 3, 1) := by decide +kernel
theorem dX9_search_64 : decode cX9_search 64 = .ok (.invokevirtual 171, 3) := by decide +kernel
theorem dX9_search_67 : decode cX9_search 67 = .ok (.aload_n 0, 1) := by decide +kernel
theorem dX9_search_68 : decode cX9_search 68 = .ok (.aload_n 0, 1) := by decide +kernel
theorem dX9_search_69 : decode cX9_search 69 = .ok (.getfield 157, 3) := by decide +kernel
theorem dX9_search_72 : decode cX9_search 72 = .ok (.aload_n 0, 1) := by decide +kernel
theorem dX9_search_73 : decode cX9_search 73 = .ok (.getfield 160, 3) := by decide +kernel
theorem dX9_search_76 : decode cX9_search 76 = .ok (.iload_n 3, 1) := by decide +kernel
theorem dX9_search_77 : decode cX9_search 77 = .ok (.iload 4, 2) := by decide +kernel
theorem dX9_search_79 : decode cX9_search 79 = .ok (.iconst 1, 1) := by decide +kernel
theorem dX9_search_80 : decode cX9_search 80 = .ok (.iadd, 1) := by decide +kernel
theorem dX9_search_81 : decode cX9_search 81 = .ok (.iload 5, 2) := by decide +kernel
theorem dX9_search_83 : decode cX9_search 83 = .ok (.invokevirtual 194, 3) := by decide +kernel
theorem dX9_search_86 : decode cX9_search 86 = .ok (.iinc 6 1, 3) := by decide +kernel
theorem dX9_search_89 : decode cX9_search 89 = .ok (.goto (-58), 3) := by decide +kernel
theorem dX9_search_92 : decode cX9_search 92 = .ok (.return_, 1) := by decide +kernel
abbrev rm_X9_search (d : Nat) : Room := { frames := 5 + d, cells := 0, slots := 0, locals := 123 + d * 26 }
theorem w_X9_search_31 {X : gX} {d : Nat} {rec : sg → Int32 → Int32 → Int32 → Int32 → Int32 → Option sg} {p1 : Int32} {p2 : Int32} {p3 : Int32} {p4 : Int32} {p5 : Int32} {x6 : Int32} {σ : sg} {r0 : sg} {r1 : ((Int32 × sg) ⊕ sg)} (C : gC X cX9_search 7 RX9 none (rm_X9_search (d + 1)))  (hrec : ∀ (τ : sg) (p1 : Int32) (p2 : Int32) (p3 : Int32) (p4 : Int32) (p5 : Int32) (r : sg), rec τ p1 p2 p3 p4 p5 = some r → gM (Xl X) (XG X) yX9_search cX9_search 7 none (rm_X9_search d) [.ref (Xd X 157), .int p1, .int p2, .int p3, .int p4, .int p5] τ (qV (XG X) r)) (hQ : gQ X (qV (XG X) r0)) (A1 : ∀ b, r1 = .inl b → G X 7 b.2 31 [(0, .ref (Xd X 157)), (1, .int p1), (2, .int p2), (3, .int p3), (4, .int p4), (5, .int p5), (6, .int b.1)] []) (B1 : ∀ b, r1 = .inr b → b = r0) (hf : B_X9_search_31 rec p1 p2 p3 p4 p5 x6 σ = some r1) : G X 7 σ 31 [(0, .ref (Xd X 157)), (1, .int p1), (2, .int p2), (3, .int p3), (4, .int p4), (5, .int p5), (6, .int x6)] [] := by
  unfold B_X9_search_31 at hf
  refine g_iload C 6 dX9_search_31 rfl ?_
  refine g_aload_n C 0 dX9_search_33 rfl ?_
  refine g_geti C 9 8 (by decide) sh_157 rfl vc_9 (by decide) inXX9 wfl_669 dX9_search_34 ?_
  refine g_icmp_ge C 92 hf dX9_search_37 (by decide) (fun hf => ?_) (fun hf => ?_)
  · have e0 : r0 = σ := (B1 _ (Option.some.inj hf).symm).symm
    exact g_vret C rfl hQ (by rw [e0]) dX9_search_92
  · refine g_iload C 4 dX9_search_40 rfl ?_
    refine g_iload C 5 dX9_search_42 rfl ?_
    refine g_icmp_ge C 92 hf dX9_search_44 (by decide) (fun hf => ?_) (fun hf => ?_)
    · have e0 : r0 = σ := (B1 _ (Option.some.inj hf).symm).symm
      exact g_vret C rfl hQ (by rw [e0]) dX9_search_92
    · refine g_iload C 4 dX9_search_47 rfl ?_
      refine g_iconst C (v := 1) dX9_search_49 rfl ?_
      refine g_iadd C dX9_search_50 ?_
      refine g_aload_n C 0 dX9_search_51 rfl ?_
      refine g_geti C 9 22 (by decide) sh_157 rfl vc_9 (by decide) inXX9 wfl_683 dX9_search_52 ?_
      refine g_icmp_ge C 92 hf dX9_search_55 (by decide) (fun hf => ?_) (fun hf => ?_)
      · have e0 : r0 = σ := (B1 _ (Option.some.inj hf).symm).symm
        exact g_vret C rfl hQ (by rw [e0]) dX9_search_92
      · refine g_aload_n C 0 dX9_search_58 rfl ?_
        refine g_iload C 6 dX9_search_59 rfl ?_
        refine g_iload_n C 1 dX9_search_61 rfl ?_
        refine g_iload_n C 2 dX9_search_62 rfl ?_
        refine g_iload_n C 3 dX9_search_63 rfl ?_
        obtain ⟨s64, h1, hf⟩ := g_bind hf
        refine g_callVv C 4 [.int x6, .int p1, .int p2, .int p3] (c_X9_fill (Xl X) (gC_I C)  h1) ⟨wml_899, wim_901, wsp_27, win_10, wcd_902⟩ (by decide) sh_157 vc_9 rfl hd_X9_fill ⟨rfl, rfl⟩ (by refine ⟨?_, ?_⟩ <;> simp only [rm_X9_search, rm_X9_fill] <;> omega) rfl rfl (Nat.le_of_ble_eq_true rfl) dX9_search_64 ?_
        clear h1
        refine g_aload_n C 0 dX9_search_67 rfl ?_
        refine g_aload_n C 0 dX9_search_68 rfl ?_
        refine g_geti C 9 13 (by decide) sh_157 rfl vc_9 (by decide) inXX9 wfl_674 dX9_search_69 ?_
        refine g_aload_n C 0 dX9_search_72 rfl ?_
        refine g_geti C 9 14 (by decide) sh_157 rfl vc_9 (by decide) inXX9 wfl_675 dX9_search_73 ?_
        refine g_iload_n C 3 dX9_search_76 rfl ?_
        refine g_iload C 4 dX9_search_77 rfl ?_
        refine g_iconst C (v := 1) dX9_search_79 rfl ?_
        refine g_iadd C dX9_search_80 ?_
        refine g_iload C 5 dX9_search_81 rfl ?_
        obtain ⟨s83, h1, hf⟩ := g_bind hf
        refine g_callVv C 5 [.int (s64 157 13), .int (s64 157 14), .int p3, .int (p4 + (1 : Int32)), .int p5] (hrec _ _ _ _ _ _ _ h1) ⟨wml_946, wim_948, wsp_31, win_10, wcd_949⟩ (by decide) sh_157 vc_9 rfl hd_X9_search ⟨rfl, rfl⟩ (by refine ⟨?_, ?_⟩ <;> simp only [rm_X9_search, rm_X9_search] <;> omega) rfl rfl (Nat.le_of_ble_eq_true rfl) dX9_search_83 ?_
        clear h1
        refine g_iinc C (v := x6 + (1 : Int32)) (lv' := [(6, .int (x6 + (1 : Int32))), (0, .ref (Xd X 157)), (1, .int p1), (2, .int p2), (3, .int p3), (4, .int p4), (5, .int p5)]) 6 dX9_search_86 rfl rfl (by decide) rfl ?_
        refine g_goto C 31 dX9_search_89 (by decide) ?_
        refine g_sub [1, 2, 3, 4, 5, 6, 0] rfl ?_
        exact A1 (x6 + (1 : Int32), s83) (Option.some.inj hf).symm
theorem wl_X9_search_31 {X : gX} {d : Nat} {rec : sg → Int32 → Int32 → Int32 → Int32 → Int32 → Option sg} {p1 : Int32} {p2 : Int32} {p3 : Int32} {p4 : Int32} {p5 : Int32} {r0 : sg} (C : gC X cX9_search 7 RX9 none (rm_X9_search (d + 1)))  (hrec : ∀ (τ : sg) (p1 : Int32) (p2 : Int32) (p3 : Int32) (p4 : Int32) (p5 : Int32) (r : sg), rec τ p1 p2 p3 p4 p5 = some r → gM (Xl X) (XG X) yX9_search cX9_search 7 none (rm_X9_search d) [.ref (Xd X 157), .int p1, .int p2, .int p3, .int p4, .int p5] τ (qV (XG X) r)) (hQ : gQ X (qV (XG X) r0))  {n : Nat} {a : (Int32 × sg)} (hf : L_X9_search_31 rec p1 p2 p3 p4 p5 n a = some r0) : G X 7 a.2 31 [(0, .ref (Xd X 157)), (1, .int p1), (2, .int p2), (3, .int p3), (4, .int p4), (5, .int p5), (6, .int a.1)] [] := by
  unfold L_X9_search_31 at hf
  have key := g_loop_ind (res := r0) (f := fun a => B_X9_search_31 rec p1 p2 p3 p4 p5 a.1 a.2) (P := fun a => G X 7 a.2 31 [(0, .ref (Xd X 157)), (1, .int p1), (2, .int p2), (3, .int p3), (4, .int p4), (5, .int p5), (6, .int a.1)] []) (fun a r1 h1 k1 k2 => w_X9_search_31 (x6 := a.1) (σ := a.2) C  hrec hQ  k1 k2 h1)
  exact key n a hf
theorem w_X9_search_24 {X : gX} {d : Nat} {rec : sg → Int32 → Int32 → Int32 → Int32 → Int32 → Option sg} {t0 : Int32} {σ : sg} {r0 : sg} (C : gC X cX9_search 7 RX9 none (rm_X9_search (d + 1)))  (hrec : ∀ (τ : sg) (p1 : Int32) (p2 : Int32) (p3 : Int32) (p4 : Int32) (p5 : Int32) (r : sg), rec τ p1 p2 p3 p4 p5 = some r → gM (Xl X) (XG X) yX9_search cX9_search 7 none (rm_X9_search d) [.ref (Xd X 157), .int p1, .int p2, .int p3, .int p4, .int p5] τ (qV (XG X) r)) (hQ : gQ X (qV (XG X) r0))  (hf : J_X9_search_24 rec t0 σ = some r0) : G X 7 σ 24 [] [.int t0, .ref (Xd X 157)] := by
  unfold J_X9_search_24 at hf
  obtain ⟨s24, h1, hf⟩ := g_bind hf
  refine g_put C 9 22 (by decide) sh_157 rfl (by decide) vc_9 (by decide) tyX9 tyX9_ok nmX9 inXX9 wfl_683 rfl (ty := .int) (by decide +kernel) rfl rfl dX9_search_24 ?_
  rw [Option.some.inj h1]
  clear h1
  have e0 : r0 = s24 := (Option.some.inj hf).symm
  exact g_vret C rfl hQ (by rw [e0]) dX9_search_27
theorem w_X9_search_e {X : gX} {d : Nat} {rec : sg → Int32 → Int32 → Int32 → Int32 → Int32 → Option sg} {σ : sg} {p1 : Int32} {p2 : Int32} {p3 : Int32} {p4 : Int32} {p5 : Int32} {r0 : sg} (C : gC X cX9_search 7 RX9 none (rm_X9_search (d + 1)))  (hrec : ∀ (τ : sg) (p1 : Int32) (p2 : Int32) (p3 : Int32) (p4 : Int32) (p5 : Int32) (r : sg), rec τ p1 p2 p3 p4 p5 = some r → gM (Xl X) (XG X) yX9_search cX9_search 7 none (rm_X9_search d) [.ref (Xd X 157), .int p1, .int p2, .int p3, .int p4, .int p5] τ (qV (XG X) r)) (hQ : gQ X (qV (XG X) r0)) (hf : E_X9_search rec σ p1 p2 p3 p4 p5 = some r0) : G X 7 σ 0 [(0, .ref (Xd X 157)), (1, .int p1), (2, .int p2), (3, .int p3), (4, .int p4), (5, .int p5)] [] := by
  unfold E_X9_search at hf
  refine g_iload_n C 1 dX9_search_0 rfl ?_
  refine g_iload_n C 3 dX9_search_1 rfl ?_
  refine g_icmp_ne C 28 hf dX9_search_2 (by decide) (fun hf => ?_) (fun hf => ?_)
  · refine g_aload_n C 0 dX9_search_5 rfl ?_
    refine g_iload C 4 dX9_search_6 rfl ?_
    refine g_aload_n C 0 dX9_search_8 rfl ?_
    refine g_geti C 9 22 (by decide) sh_157 rfl vc_9 (by decide) inXX9 wfl_683 dX9_search_9 ?_
    refine g_icmp_ge C 20 hf dX9_search_12 (by decide) (fun hf => ?_) (fun hf => ?_)
    · refine g_aload_n C 0 dX9_search_20 rfl ?_
      refine g_geti C 9 22 (by decide) sh_157 rfl vc_9 (by decide) inXX9 wfl_683 dX9_search_21 ?_
      refine g_sub [] rfl ?_
      exact w_X9_search_24 C  hrec hQ  hf
    · refine g_iload C 4 dX9_search_15 rfl ?_
      refine g_goto C 24 dX9_search_17 (by decide) ?_
      refine g_sub [] rfl ?_
      exact w_X9_search_24 C  hrec hQ  hf
  · refine g_iconst C (v := 0) dX9_search_28 rfl ?_
    refine g_istore C (lv' := [(6, .int (0 : Int32)), (0, .ref (Xd X 157)), (1, .int p1), (2, .int p2), (3, .int p3), (4, .int p4), (5, .int p5)]) dX9_search_29 (by decide) rfl ?_
    refine g_sub [1, 2, 3, 4, 5, 6, 0] rfl ?_
    exact wl_X9_search_31 (a := ((0 : Int32), σ)) C  hrec hQ  hf
theorem c_X9_search (l : Launch) {Gw : gW} (hI : g_I Gw) : ∀ (d : Nat) (σ : sg) (p1 : Int32) (p2 : Int32) (p3 : Int32) (p4 : Int32) (p5 : Int32) (r : sg), f_X9_search d σ p1 p2 p3 p4 p5 = some r → gM l Gw yX9_search cX9_search 7 none (rm_X9_search d) [.ref (Gw.2.2 157), .int p1, .int p2, .int p3, .int p4, .int p5] σ (qV (Gw) r) := by
  intro d
  induction d with
  | zero => intro σ p1 p2 p3 p4 p5 r hf; cases hf
  | succ d ih =>
    intro σ p1 p2 p3 p4 p5 r hf
    refine g_met hI (by decide) (Nat.le_of_ble_eq_true rfl) (fun X h1 h2 C hQ => ?_)
    subst h1; subst h2
    exact w_X9_search_e (rec := f_X9_search d) C ih hQ hf
theorem dX9_least_0 : decode cX9_least 0 = .ok (.aload_n 0, 1) := by decide +kernel
theorem dX9_least_1 : decode cX9_least 1 = .ok (.invokevirtual 140, 3) := by decide +kernel
theorem dX9_least_4 : decode cX9_least 4 = .ok (.ifCond .ne 6, 3) := by decide +kernel
theorem dX9_least_7 : decode cX9_least 7 = .ok (.bipush (-6), 2) := by decide +kernel
theorem dX9_least_9 : decode cX9_least 9 = .ok (.ireturn, 1) := by decide +kernel
theorem dX9_least_10 : decode cX9_least 10 = .ok (.aload_n 0, 1) := by decide +kernel
theorem dX9_least_11 : decode cX9_least 11 = .ok (.invokevirtual 144, 3) := by decide +kernel
theorem dX9_least_14 : decode cX9_least 14 = .ok (.iload_n 1, 1) := by decide +kernel
theorem dX9_least_15 : decode cX9_least 15 = .ok (.iconst 0, 1) := by decide +kernel
theorem dX9_least_16 : decode cX9_least 16 = .ok (.aload_n 0, 1) := by decide +kernel
theorem dX9_least_17 : decode cX9_least 17 = .ok (.getfield 134, 3) := by decide +kernel
theorem dX9_least_20 : decode cX9_least 20 = .ok (.iconst 1, 1) := by decide +kernel
theorem dX9_least_21 : decode cX9_least 21 = .ok (.isub, 1) := by decide +kernel
theorem dX9_least_22 : decode cX9_least 22 = .ok (.invokestatic 77, 3) := by decide +kernel
theorem dX9_least_25 : decode cX9_least 25 = .ok (.ifCond .ne 5, 3) := by decide +kernel
theorem dX9_least_28 : decode cX9_least 28 = .ok (.iconst (-1), 1) := by decide +kernel
theorem dX9_least_29 : decode cX9_least 29 = .ok (.ireturn, 1) := by decide +kernel
theorem dX9_least_30 : decode cX9_least 30 = .ok (.iload_n 2, 1) := by decide +kernel
theorem dX9_least_31 : decode cX9_least 31 = .ok (.iconst 0, 1) := by decide +kernel
theorem dX9_least_32 : decode cX9_least 32 = .ok (.iconst 4, 1) := by decide +kernel
theorem dX9_least_33 : decode cX9_least 33 = .ok (.invokestatic 77, 3) := by decide +kernel
theorem dX9_least_36 : decode cX9_least 36 = .ok (.ifCond .ne 6, 3) := by decide +kernel
theorem dX9_least_39 : decode cX9_least 39 = .ok (.bipush (-2), 2) := by decide +kernel
theorem dX9_least_41 : decode cX9_least 41 = .ok (.ireturn, 1) := by decide +kernel
theorem dX9_least_42 : decode cX9_least 42 = .ok (.aload_n 0, 1) := by decide +kernel
theorem dX9_least_43 : decode cX9_least 43 = .ok (.iload_n 2, 1) := by decide +kernel
theorem dX9_least_44 : decode cX9_least 44 = .ok (.iconst 1, 1) := by decide +kernel
theorem dX9_least_45 : decode cX9_least 45 = .ok (.iadd, 1) := by decide +kernel
theorem dX9_least_46 : decode cX9_least 46 = .ok (.putfield 191, 3) := by decide +kernel
theorem dX9_least_49 : decode cX9_least 49 = .ok (.aload_n 0, 1) := by decide +kernel
theorem dX9_least_50 : decode cX9_least 50 = .ok (.aload_n 0, 1) := by decide +kernel
theorem dX9_least_51 : decode cX9_least 51 = .ok (.getfield 26, 3) := by decide +kernel
theorem dX9_least_54 : decode cX9_least 54 = .ok (.iload_n 1, 1) := by decide +kernel
theorem dX9_least_55 : decode cX9_least 55 = .ok (.iaload, 1) := by decide +kernel
theorem dX9_least_56 : decode cX9_least 56 = .ok (.iconst 0, 1) := by decide +kernel
theorem dX9_least_57 : decode cX9_least 57 = .ok (.aload_n 0, 1) := by decide +kernel
theorem dX9_least_58 : decode cX9_least 58 = .ok (.getfield 26, 3) := by decide +kernel
theorem dX9_least_61 : decode cX9_least 61 = .ok (.iload_n 1, 1) := by decide +kernel
theorem dX9_least_62 : decode cX9_least 62 = .ok (.iconst 1, 1) := by decide +kernel
theorem dX9_least_63 : decode cX9_least 63 = .ok (.iadd, 1) := by decide +kernel
theorem dX9_least_64 : decode cX9_least 64 = .ok (.iaload, 1) := by decide +kernel
theorem dX9_least_65 : decode cX9_least 65 = .ok (.iconst 0, 1) := by decide +kernel
theorem dX9_least_66 : decode cX9_least 66 = .ok (.iload_n 2, 1) := by decide +kernel
theorem dX9_least_67 : decode cX9_least 67 = .ok (.invokevirtual 194, 3) := by decide +kernel
theorem dX9_least_70 : decode cX9_least 70 = .ok (.aload_n 0, 1) := by decide +kernel
theorem dX9_least_71 : decode cX9_least 71 = .ok (.getfield 191, 3) := by decide +kernel
theorem dX9_least_74 : decode cX9_least 74 = .ok (.iload_n 2, 1) := by decide +kernel
theorem dX9_least_75 : decode cX9_least 75 = .ok (.if_icmp .le 8, 3) := by decide +kernel
theorem dX9_least_78 : decode cX9_least 78 = .ok (.bipush (-4), 2) := by decide +kernel
theorem dX9_least_80 : decode cX9_least 80 = .ok (.goto 7, 3) := by decide +kernel
theorem dX9_least_83 : decode cX9_least 83 = .ok (.aload_n 0, 1) := by decide +kernel
theorem dX9_least_84 : decode cX9_least 84 = .ok (.getfield 191, 3) := by decide +kernel
theorem dX9_least_87 : decode cX9_least 87 = .ok (.ireturn, 1) := by decide +kernel
abbrev rm_X9_least : Room := { frames := 14, cells := 0, slots := 0, locals := 357 }
theorem w_X9_least_e {X : gX} {σ : sg} {p1 : Int32} {p2 : Int32} {r0 : (Int32 × sg)} (C : gC X cX9_least 3 RX9 (some .int) rm_X9_least)  (hQ : gQ X (qI (XG X) r0.1 r0.2)) (hf : f_X9_least σ p1 p2 = some r0) : G X 3 σ 0 [(0, .ref (Xd X 157)), (1, .int p1), (2, .int p2)] [] := by
  unfold f_X9_least at hf
  refine g_aload_n C 0 dX9_least_0 rfl ?_
  obtain ⟨v1, h1, hf⟩ := g_bind hf
  refine g_callVi C 0 [] (c_X9_isComplete (Xl X) (gC_I C)  h1) ⟨wml_816, wim_818, wsp_15, win_10, wcd_819⟩ (by decide) sh_157 vc_9 rfl hd_X9_isComplete ⟨rfl, rfl⟩ ⟨Nat.le_of_ble_eq_true rfl, Nat.le_of_ble_eq_true rfl⟩ rfl rfl (Nat.le_of_ble_eq_true rfl) dX9_least_1 ?_
  clear h1
  refine g_if_ne C 10 hf dX9_least_4 (by decide) (fun hf => ?_) (fun hf => ?_)
  · refine g_bipush C (v := (-6)) dX9_least_7 rfl ?_
    have e0 : r0 = ((-6 : Int32), σ) := (Option.some.inj hf).symm
    exact g_iret C rfl hQ (by rw [e0]) rfl dX9_least_9
  · refine g_aload_n C 0 dX9_least_10 rfl ?_
    obtain ⟨s11, h1, hf⟩ := g_bind hf
    refine g_callVv C 0 [] (c_X9_findBlocks (Xl X) (gC_I C)  h1) ⟨wml_828, wim_830, wsp_18, win_10, wcd_831⟩ (by decide) sh_157 vc_9 rfl hd_X9_findBlocks ⟨rfl, rfl⟩ ⟨Nat.le_of_ble_eq_true rfl, Nat.le_of_ble_eq_true rfl⟩ rfl rfl (Nat.le_of_ble_eq_true rfl) dX9_least_11 ?_
    clear h1
    refine g_iload_n C 1 dX9_least_14 rfl ?_
    refine g_iconst C (v := 0) dX9_least_15 rfl ?_
    refine g_aload_n C 0 dX9_least_16 rfl ?_
    refine g_geti C 9 7 (by decide) sh_157 rfl vc_9 (by decide) inXX9 wfl_668 dX9_least_17 ?_
    refine g_iconst C (v := 1) dX9_least_20 rfl ?_
    refine g_isub C dX9_least_21 ?_
    obtain ⟨v22, h1, hf⟩ := g_bind hf
    refine g_callSi C 3 [.int p1, .int (0 : Int32), .int ((s11 157 7) - (1 : Int32))] (c_X9_isBetween (Xl X) (gC_I C)  h1) ⟨wml_771, wst_772, win_10, wcd_773⟩ hd_X9_isBetween ⟨rfl, rfl⟩ ⟨Nat.le_of_ble_eq_true rfl, Nat.le_of_ble_eq_true rfl⟩ rfl rfl (Nat.le_of_ble_eq_true rfl) dX9_least_22 ?_
    clear h1
    refine g_if_ne C 30 hf dX9_least_25 (by decide) (fun hf => ?_) (fun hf => ?_)
    · refine g_iconst C (v := (-1)) dX9_least_28 rfl ?_
      have e0 : r0 = ((-1 : Int32), s11) := (Option.some.inj hf).symm
      exact g_iret C rfl hQ (by rw [e0]) rfl dX9_least_29
    · refine g_iload_n C 2 dX9_least_30 rfl ?_
      refine g_iconst C (v := 0) dX9_least_31 rfl ?_
      refine g_iconst C (v := 4) dX9_least_32 rfl ?_
      obtain ⟨v33, h1, hf⟩ := g_bind hf
      refine g_callSi C 3 [.int p2, .int (0 : Int32), .int (4 : Int32)] (c_X9_isBetween (Xl X) (gC_I C)  h1) ⟨wml_771, wst_772, win_10, wcd_773⟩ hd_X9_isBetween ⟨rfl, rfl⟩ ⟨Nat.le_of_ble_eq_true rfl, Nat.le_of_ble_eq_true rfl⟩ rfl rfl (Nat.le_of_ble_eq_true rfl) dX9_least_33 ?_
      clear h1
      refine g_if_ne C 42 hf dX9_least_36 (by decide) (fun hf => ?_) (fun hf => ?_)
      · refine g_bipush C (v := (-2)) dX9_least_39 rfl ?_
        have e0 : r0 = ((-2 : Int32), s11) := (Option.some.inj hf).symm
        exact g_iret C rfl hQ (by rw [e0]) rfl dX9_least_41
      · refine g_aload_n C 0 dX9_least_42 rfl ?_
        refine g_iload_n C 2 dX9_least_43 rfl ?_
        refine g_iconst C (v := 1) dX9_least_44 rfl ?_
        refine g_iadd C dX9_least_45 ?_
        obtain ⟨s46, h1, hf⟩ := g_bind hf
        refine g_put C 9 22 (by decide) sh_157 rfl (by decide) vc_9 (by decide) tyX9 tyX9_ok nmX9 inXX9 wfl_683 rfl (ty := .int) (by decide +kernel) rfl rfl dX9_least_46 ?_
        rw [Option.some.inj h1]
        clear h1
        refine g_aload_n C 0 dX9_least_49 rfl ?_
        refine g_aload_n C 0 dX9_least_50 rfl ?_
        refine g_getr C 9 6 (612) (by decide) sh_157 rfl vc_9 (by decide) inXX9 wfl_667 dX9_least_51 ?_
        refine g_iload_n C 1 dX9_least_54 rfl ?_
        obtain ⟨v55, h1, hf⟩ := g_bind hf
        refine g_iald C h1 dX9_least_55 ?_
        clear h1
        refine g_iconst C (v := 0) dX9_least_56 rfl ?_
        refine g_aload_n C 0 dX9_least_57 rfl ?_
        refine g_getr C 9 6 (612) (by decide) sh_157 rfl vc_9 (by decide) inXX9 wfl_667 dX9_least_58 ?_
        refine g_iload_n C 1 dX9_least_61 rfl ?_
        refine g_iconst C (v := 1) dX9_least_62 rfl ?_
        refine g_iadd C dX9_least_63 ?_
        obtain ⟨v64, h1, hf⟩ := g_bind hf
        refine g_iald C h1 dX9_least_64 ?_
        clear h1
        refine g_iconst C (v := 0) dX9_least_65 rfl ?_
        refine g_iload_n C 2 dX9_least_66 rfl ?_
        obtain ⟨s67, h1, hf⟩ := g_bind hf
        refine g_callVv C 5 [.int v55, .int (0 : Int32), .int v64, .int (0 : Int32), .int p2] (c_X9_search (Xl X) (gC_I C) 8 _ _ _ _ _ _ _ h1) ⟨wml_946, wim_948, wsp_31, win_10, wcd_949⟩ (by decide) sh_157 vc_9 rfl hd_X9_search ⟨rfl, rfl⟩ ⟨Nat.le_of_ble_eq_true rfl, Nat.le_of_ble_eq_true rfl⟩ rfl rfl (Nat.le_of_ble_eq_true rfl) dX9_least_67 ?_
        clear h1
        refine g_aload_n C 0 dX9_least_70 rfl ?_
        refine g_geti C 9 22 (by decide) sh_157 rfl vc_9 (by decide) inXX9 wfl_683 dX9_least_71 ?_
        refine g_iload_n C 2 dX9_least_74 rfl ?_
        refine g_icmp_le C 83 hf dX9_least_75 (by decide) (fun hf => ?_) (fun hf => ?_)
        · refine g_aload_n C 0 dX9_least_83 rfl ?_
          refine g_geti C 9 22 (by decide) sh_157 rfl vc_9 (by decide) inXX9 wfl_683 dX9_least_84 ?_
          have e0 : r0 = (s67 157 22, s67) := (Option.some.inj hf).symm
          exact g_iret C rfl hQ (by rw [e0]) rfl dX9_least_87
        · refine g_bipush C (v := (-4)) dX9_least_78 rfl ?_
          refine g_goto C 87 dX9_least_80 (by decide) ?_
          have e0 : r0 = ((-4 : Int32), s67) := (Option.some.inj hf).symm
          exact g_iret C rfl hQ (by rw [e0]) rfl dX9_least_87
theorem c_X9_least (l : Launch) {Gw : gW} (hI : g_I Gw) {σ : sg} {p1 : Int32} {p2 : Int32} {r : (Int32 × sg)}  (hf : f_X9_least σ p1 p2 = some r) : gM l Gw yX9_least cX9_least 3 (some .int) rm_X9_least [.ref (Gw.2.2 157), .int p1, .int p2] σ (qI (Gw) r.1 r.2) := by
  refine g_met hI (by decide) (Nat.le_of_ble_eq_true rfl) (fun X h1 h2 C hQ => ?_)
  subst h1; subst h2
  exact w_X9_least_e C  hQ hf
theorem dX9_isEmpty_0 : decode cX9_isEmpty 0 = .ok (.aload_n 0, 1) := by decide +kernel
theorem dX9_isEmpty_1 : decode cX9_isEmpty 1 = .ok (.getfield 41, 3) := by decide +kernel
theorem dX9_isEmpty_4 : decode cX9_isEmpty 4 = .ok (.iload_n 1, 1) := by decide +kernel
theorem dX9_isEmpty_5 : decode cX9_isEmpty 5 = .ok (.aaload, 1) := by decide +kernel
theorem dX9_isEmpty_6 : decode cX9_isEmpty 6 = .ok (.iconst 0, 1) := by decide +kernel
theorem dX9_isEmpty_7 : decode cX9_isEmpty 7 = .ok (.iaload, 1) := by decide +kernel
theorem dX9_isEmpty_8 : decode cX9_isEmpty 8 = .ok (.ifCond .ge 29, 3) := by decide +kernel
theorem dX9_isEmpty_11 : decode cX9_isEmpty 11 = .ok (.aload_n 0, 1) := by decide +kernel
theorem dX9_isEmpty_12 : decode cX9_isEmpty 12 = .ok (.getfield 41, 3) := by decide +kernel
theorem dX9_isEmpty_15 : decode cX9_isEmpty 15 = .ok (.iload_n 1, 1) := by decide +kernel
theorem dX9_isEmpty_16 : decode cX9_isEmpty 16 = .ok (.aaload, 1) := by decide +kernel
theorem dX9_isEmpty_17 : decode cX9_isEmpty 17 = .ok (.iconst 1, 1) := by decide +kernel
theorem dX9_isEmpty_18 : decode cX9_isEmpty 18 = .ok (.iaload, 1) := by decide +kernel
theorem dX9_isEmpty_19 : decode cX9_isEmpty 19 = .ok (.ifCond .ge 18, 3) := by decide +kernel
theorem dX9_isEmpty_22 : decode cX9_isEmpty 22 = .ok (.aload_n 0, 1) := by decide +kernel
theorem dX9_isEmpty_23 : decode cX9_isEmpty 23 = .ok (.getfield 41, 3) := by decide +kernel
theorem dX9_isEmpty_26 : decode cX9_isEmpty 26 = .ok (.iload_n 1, 1) := by decide +kernel
theorem dX9_isEmpty_27 : decode cX9_isEmpty 27 = .ok (.aaload, 1) := by decide +kernel
theorem dX9_isEmpty_28 : decode cX9_isEmpty 28 = .ok (.iconst 2, 1) := by decide +kernel
theorem dX9_isEmpty_29 : decode cX9_isEmpty 29 = .ok (.iaload, 1) := by decide +kernel
theorem dX9_isEmpty_30 : decode cX9_isEmpty 30 = .ok (.ifCond .ge 7, 3) := by decide +kernel
theorem dX9_isEmpty_33 : decode cX9_isEmpty 33 = .ok (.iconst 1, 1) := by decide +kernel
theorem dX9_isEmpty_34 : decode cX9_isEmpty 34 = .ok (.goto 4, 3) := by decide +kernel
theorem dX9_isEmpty_37 : decode cX9_isEmpty 37 = .ok (.iconst 0, 1) := by decide +kernel
theorem dX9_isEmpty_38 : decode cX9_isEmpty 38 = .ok (.ireturn, 1) := by decide +kernel
abbrev rm_X9_isEmpty : Room := { frames := 0, cells := 0, slots := 0, locals := 0 }
theorem w_X9_isEmpty_e {X : gX} {σ : sg} {p1 : Int32} {r0 : Int32} (C : gC X cX9_isEmpty 2 RX9 (some .boolean) rm_X9_isEmpty)  (hQ : gQ X (qI (XG X) r0 σ)) (hf : f_X9_isEmpty σ p1 = some r0) : G X 2 σ 0 [(0, .ref (Xd X 157)), (1, .int p1)] [] := by
  unfold f_X9_isEmpty at hf
  refine g_aload_n C 0 dX9_isEmpty_0 rfl ?_
  refine g_getr C 9 18 (625) (by decide) sh_157 rfl vc_9 (by decide) inXX9 wfl_679 dX9_isEmpty_1 ?_
  refine g_iload_n C 1 dX9_isEmpty_4 rfl ?_
  obtain ⟨q5, h1, hf⟩ := g_bind hf
  refine g_aald C h1 dX9_isEmpty_5 ?_
  clear h1
  refine g_iconst C (v := 0) dX9_isEmpty_6 rfl ?_
  obtain ⟨v7, h1, hf⟩ := g_bind hf
  refine g_iald C h1 dX9_isEmpty_7 ?_
  clear h1
  refine g_if_ge C 37 hf dX9_isEmpty_8 (by decide) (fun hf => ?_) (fun hf => ?_)
  · refine g_iconst C (v := 0) dX9_isEmpty_37 rfl ?_
    have e0 : r0 = (0 : Int32) := (Option.some.inj hf).symm
    exact g_iret C rfl hQ (by rw [e0]) rfl dX9_isEmpty_38
  · refine g_aload_n C 0 dX9_isEmpty_11 rfl ?_
    refine g_getr C 9 18 (625) (by decide) sh_157 rfl vc_9 (by decide) inXX9 wfl_679 dX9_isEmpty_12 ?_
    refine g_iload_n C 1 dX9_isEmpty_15 rfl ?_
    obtain ⟨q16, h1, hf⟩ := g_bind hf
    refine g_aald C h1 dX9_isEmpty_16 ?_
    clear h1
    refine g_iconst C (v := 1) dX9_isEmpty_17 rfl ?_
    obtain ⟨v18, h1, hf⟩ := g_bind hf
    refine g_iald C h1 dX9_isEmpty_18 ?_
    clear h1
    refine g_if_ge C 37 hf dX9_isEmpty_19 (by decide) (fun hf => ?_) (fun hf => ?_)
    · refine g_iconst C (v := 0) dX9_isEmpty_37 rfl ?_
      have e0 : r0 = (0 : Int32) := (Option.some.inj hf).symm
      exact g_iret C rfl hQ (by rw [e0]) rfl dX9_isEmpty_38
    · refine g_aload_n C 0 dX9_isEmpty_22 rfl ?_
      refine g_getr C 9 18 (625) (by decide) sh_157 rfl vc_9 (by decide) inXX9 wfl_679 dX9_isEmpty_23 ?_
      refine g_iload_n C 1 dX9_isEmpty_26 rfl ?_
      obtain ⟨q27, h1, hf⟩ := g_bind hf
      refine g_aald C h1 dX9_isEmpty_27 ?_
      clear h1
      refine g_iconst C (v := 2) dX9_isEmpty_28 rfl ?_
      obtain ⟨v29, h1, hf⟩ := g_bind hf
      refine g_iald C h1 dX9_isEmpty_29 ?_
      clear h1
      refine g_if_ge C 37 hf dX9_isEmpty_30 (by decide) (fun hf => ?_) (fun hf => ?_)
      · refine g_iconst C (v := 0) dX9_isEmpty_37 rfl ?_
        have e0 : r0 = (0 : Int32) := (Option.some.inj hf).symm
        exact g_iret C rfl hQ (by rw [e0]) rfl dX9_isEmpty_38
      · refine g_iconst C (v := 1) dX9_isEmpty_33 rfl ?_
        refine g_goto C 38 dX9_isEmpty_34 (by decide) ?_
        have e0 : r0 = (1 : Int32) := (Option.some.inj hf).symm
        exact g_iret C rfl hQ (by rw [e0]) rfl dX9_isEmpty_38
theorem c_X9_isEmpty (l : Launch) {Gw : gW} (hI : g_I Gw) {σ : sg} {p1 : Int32} {r : Int32}  (hf : f_X9_isEmpty σ p1 = some r) : gM l Gw yX9_isEmpty cX9_isEmpty 2 (some .boolean) rm_X9_isEmpty [.ref (Gw.2.2 157), .int p1] σ (qI (Gw) r σ) := by
  refine g_met hI (by decide) (Nat.le_of_ble_eq_true rfl) (fun X h1 h2 C hQ => ?_)
  subst h1; subst h2
  exact w_X9_isEmpty_e C  hQ hf
theorem dX9_addCode_0 : decode cX9_addCode 0 = .ok (.aload_n 0, 1) := by decide +kernel
theorem dX9_addCode_1 : decode cX9_addCode 1 = .ok (.getfield 197, 3) := by decide +kernel
theorem dX9_addCode_4 : decode cX9_addCode 4 = .ok (.istore_n 2, 1) := by decide +kernel
theorem dX9_addCode_5 : decode cX9_addCode 5 = .ok (.aload_n 0, 1) := by decide +kernel
theorem dX9_addCode_6 : decode cX9_addCode 6 = .ok (.getfield 53, 3) := by decide +kernel
theorem dX9_addCode_9 : decode cX9_addCode 9 = .ok (.iload_n 2, 1) := by decide +kernel
theorem dX9_addCode_10 : decode cX9_addCode 10 = .ok (.bipush 8, 2) := by decide +kernel
theorem dX9_addCode_12 : decode cX9_addCode 12 = .ok (.aload_n 0, 1) := by decide +kernel
theorem dX9_addCode_13 : decode cX9_addCode 13 = .ok (.getfield 47, 3) := by decide +kernel
theorem dX9_addCode_16 : decode cX9_addCode 16 = .ok (.iload_n 1, 1) := by decide +kernel
theorem dX9_addCode_17 : decode cX9_addCode 17 = .ok (.iaload, 1) := by decide +kernel
theorem dX9_addCode_18 : decode cX9_addCode 18 = .ok (.imul, 1) := by decide +kernel
theorem dX9_addCode_19 : decode cX9_addCode 19 = .ok (.sipush 1000, 3) := by decide +kernel
theorem dX9_addCode_22 : decode cX9_addCode 22 = .ok (.iadd, 1) := by decide +kernel
theorem dX9_addCode_23 : decode cX9_addCode 23 = .ok (.iastore, 1) := by decide +kernel
theorem dX9_addCode_24 : decode cX9_addCode 24 = .ok (.aload_n 0, 1) := by decide +kernel
theorem dX9_addCode_25 : decode cX9_addCode 25 = .ok (.dup, 1) := by decide +kernel
theorem dX9_addCode_26 : decode cX9_addCode 26 = .ok (.getfield 197, 3) := by decide +kernel
theorem dX9_addCode_29 : decode cX9_addCode 29 = .ok (.iconst 1, 1) := by decide +kernel
theorem dX9_addCode_30 : decode cX9_addCode 30 = .ok (.iadd, 1) := by decide +kernel
theorem dX9_addCode_31 : decode cX9_addCode 31 = .ok (.putfield 197, 3) := by decide +kernel
theorem dX9_addCode_34 : decode cX9_addCode 34 = .ok (.iconst 0, 1) := by decide +kernel
theorem dX9_addCode_35 : decode cX9_addCode 35 = .ok (.istore_n 3, 1) := by decide +kernel
theorem dX9_addCode_36 : decode cX9_addCode 36 = .ok (.iload_n 3, 1) := by decide +kernel
theorem dX9_addCode_37 : decode cX9_addCode 37 = .ok (.iconst 3, 1) := by decide +kernel
theorem dX9_addCode_38 : decode cX9_addCode 38 = .ok (.if_icmp .ge 59, 3) := by decide +kernel
theorem dX9_addCode_41 : decode cX9_addCode 41 = .ok (.aload_n 0, 1) := by decide +kernel
theorem dX9_addCode_42 : decode cX9_addCode 42 = .ok (.getfield 41, 3) := by decide +kernel
theorem dX9_addCode_45 : decode cX9_addCode 45 = .ok (.iload_n 1, 1) := by decide +kernel
theorem dX9_addCode_46 : decode cX9_addCode 46 = .ok (.aaload, 1) := by decide +kernel
theorem dX9_addCode_47 : decode cX9_addCode 47 = .ok (.iload_n 3, 1) := by decide +kernel
theorem dX9_addCode_48 : decode cX9_addCode 48 = .ok (.iaload, 1) := by decide +kernel
theorem dX9_addCode_49 : decode cX9_addCode 49 = .ok (.ifCond .lt 42, 3) := by decide +kernel
theorem dX9_addCode_52 : decode cX9_addCode 52 = .ok (.aload_n 0, 1) := by decide +kernel
theorem dX9_addCode_53 : decode cX9_addCode 53 = .ok (.getfield 53, 3) := by decide +kernel
theorem dX9_addCode_56 : decode cX9_addCode 56 = .ok (.iload_n 2, 1) := by decide +kernel
theorem dX9_addCode_57 : decode cX9_addCode 57 = .ok (.dup2, 1) := by decide +kernel
theorem dX9_addCode_58 : decode cX9_addCode 58 = .ok (.iaload, 1) := by decide +kernel
theorem dX9_addCode_59 : decode cX9_addCode 59 = .ok (.iconst 1, 1) := by decide +kernel
theorem dX9_addCode_60 : decode cX9_addCode 60 = .ok (.iload_n 3, 1) := by decide +kernel
theorem dX9_addCode_61 : decode cX9_addCode 61 = .ok (.ishl, 1) := by decide +kernel
theorem dX9_addCode_62 : decode cX9_addCode 62 = .ok (.iadd, 1) := by decide +kernel
theorem dX9_addCode_63 : decode cX9_addCode 63 = .ok (.iastore, 1) := by decide +kernel
theorem dX9_addCode_64 : decode cX9_addCode 64 = .ok (.aload_n 0, 1) := by decide +kernel
theorem dX9_addCode_65 : decode cX9_addCode 65 = .ok (.getfield 53, 3) := by decide +kernel
theorem dX9_addCode_68 : decode cX9_addCode 68 = .ok (.aload_n 0, 1) := by decide +kernel
theorem dX9_addCode_69 : decode cX9_addCode 69 = .ok (.getfield 197, 3) := by decide +kernel
theorem dX9_addCode_72 : decode cX9_addCode 72 = .ok (.aload_n 0, 1) := by decide +kernel
theorem dX9_addCode_73 : decode cX9_addCode 73 = .ok (.getfield 41, 3) := by decide +kernel
theorem dX9_addCode_76 : decode cX9_addCode 76 = .ok (.iload_n 1, 1) := by decide +kernel
theorem dX9_addCode_77 : decode cX9_addCode 77 = .ok (.aaload, 1) := by decide +kernel
theorem dX9_addCode_78 : decode cX9_addCode 78 = .ok (.iload_n 3, 1) := by decide +kernel
theorem dX9_addCode_79 : decode cX9_addCode 79 = .ok (.iaload, 1) := by decide +kernel
theorem dX9_addCode_80 : decode cX9_addCode 80 = .ok (.iastore, 1) := by decide +kernel
theorem dX9_addCode_81 : decode cX9_addCode 81 = .ok (.aload_n 0, 1) := by decide +kernel
theorem dX9_addCode_82 : decode cX9_addCode 82 = .ok (.dup, 1) := by decide +kernel
theorem dX9_addCode_83 : decode cX9_addCode 83 = .ok (.getfield 197, 3) := by decide +kernel
theorem dX9_addCode_86 : decode cX9_addCode 86 = .ok (.iconst 1, 1) := by decide +kernel
theorem dX9_addCode_87 : decode cX9_addCode 87 = .ok (.iadd, 1) := by decide +kernel
theorem dX9_addCode_88 : decode cX9_addCode 88 = .ok (.putfield 197, 3) := by decide +kernel
theorem dX9_addCode_91 : decode cX9_addCode 91 = .ok (.iinc 3 1, 3) := by decide +kernel
theorem dX9_addCode_94 : decode cX9_addCode 94 = .ok (.goto (-58), 3) := by decide +kernel
theorem dX9_addCode_97 : decode cX9_addCode 97 = .ok (.return_, 1) := by decide +kernel
abbrev rm_X9_addCode : Room := { frames := 0, cells := 0, slots := 0, locals := 0 }
theorem w_X9_addCode_91 {X : gX} {p1 : Int32} {x2 : Int32} {x3 : Int32} {σ : sg} {r0 : sg} {r1 : ((Int32 × sg) ⊕ sg)} (C : gC X cX9_addCode 4 RX9 none rm_X9_addCode)  (hQ : gQ X (qV (XG X) r0)) (A1 : ∀ b, r1 = .inl b → G X 4 b.2 36 [(0, .ref (Xd X 157)), (1, .int p1), (2, .int x2), (3, .int b.1)] []) (B1 : ∀ b, r1 = .inr b → b = r0) (hf : J_X9_addCode_91 p1 x2 x3 σ = some r1) : G X 4 σ 91 [(0, .ref (Xd X 157)), (1, .int p1), (2, .int x2), (3, .int x3)] [] := by
  unfold J_X9_addCode_91 at hf
  refine g_iinc C (v := x3 + (1 : Int32)) (lv' := [(3, .int (x3 + (1 : Int32))), (0, .ref (Xd X 157)), (1, .int p1), (2, .int x2)]) 3 dX9_addCode_91 rfl rfl (by decide) rfl ?_
  refine g_goto C 36 dX9_addCode_94 (by decide) ?_
  refine g_sub [1, 2, 3, 0] rfl ?_
  exact A1 (x3 + (1 : Int32), σ) (Option.some.inj hf).symm
theorem w_X9_addCode_36 {X : gX} {p1 : Int32} {x2 : Int32} {x3 : Int32} {σ : sg} {r0 : sg} {r1 : ((Int32 × sg) ⊕ sg)} (C : gC X cX9_addCode 4 RX9 none rm_X9_addCode)  (hQ : gQ X (qV (XG X) r0)) (A1 : ∀ b, r1 = .inl b → G X 4 b.2 36 [(0, .ref (Xd X 157)), (1, .int p1), (2, .int x2), (3, .int b.1)] []) (B1 : ∀ b, r1 = .inr b → b = r0) (hf : B_X9_addCode_36 p1 x2 x3 σ = some r1) : G X 4 σ 36 [(0, .ref (Xd X 157)), (1, .int p1), (2, .int x2), (3, .int x3)] [] := by
  unfold B_X9_addCode_36 at hf
  refine g_iload_n C 3 dX9_addCode_36 rfl ?_
  refine g_iconst C (v := 3) dX9_addCode_37 rfl ?_
  refine g_icmp_ge C 97 hf dX9_addCode_38 (by decide) (fun hf => ?_) (fun hf => ?_)
  · have e0 : r0 = σ := (B1 _ (Option.some.inj hf).symm).symm
    exact g_vret C rfl hQ (by rw [e0]) dX9_addCode_97
  · refine g_aload_n C 0 dX9_addCode_41 rfl ?_
    refine g_getr C 9 18 (625) (by decide) sh_157 rfl vc_9 (by decide) inXX9 wfl_679 dX9_addCode_42 ?_
    refine g_iload_n C 1 dX9_addCode_45 rfl ?_
    obtain ⟨q46, h1, hf⟩ := g_bind hf
    refine g_aald C h1 dX9_addCode_46 ?_
    clear h1
    refine g_iload_n C 3 dX9_addCode_47 rfl ?_
    obtain ⟨v48, h1, hf⟩ := g_bind hf
    refine g_iald C h1 dX9_addCode_48 ?_
    clear h1
    refine g_if_lt C 91 hf dX9_addCode_49 (by decide) (fun hf => ?_) (fun hf => ?_)
    · exact w_X9_addCode_91 C  hQ A1 B1 hf
    · refine g_aload_n C 0 dX9_addCode_52 rfl ?_
      refine g_getr C 9 23 (729) (by decide) sh_157 rfl vc_9 (by decide) inXX9 wfl_684 dX9_addCode_53 ?_
      refine g_iload_n C 2 dX9_addCode_56 rfl ?_
      refine g_dup2 C dX9_addCode_57 rfl rfl ?_
      obtain ⟨v58, h1, hf⟩ := g_bind hf
      refine g_iald C h1 dX9_addCode_58 ?_
      clear h1
      refine g_iconst C (v := 1) dX9_addCode_59 rfl ?_
      refine g_iload_n C 3 dX9_addCode_60 rfl ?_
      refine g_ishl C dX9_addCode_61 ?_
      refine g_iadd C dX9_addCode_62 ?_
      obtain ⟨s63, h1, hf⟩ := g_bind hf
      refine g_iast C h1 dX9_addCode_63 ?_
      clear h1
      refine g_aload_n C 0 dX9_addCode_64 rfl ?_
      refine g_getr C 9 23 (729) (by decide) sh_157 rfl vc_9 (by decide) inXX9 wfl_684 dX9_addCode_65 ?_
      refine g_aload_n C 0 dX9_addCode_68 rfl ?_
      refine g_geti C 9 25 (by decide) sh_157 rfl vc_9 (by decide) inXX9 wfl_686 dX9_addCode_69 ?_
      refine g_aload_n C 0 dX9_addCode_72 rfl ?_
      refine g_getr C 9 18 (625) (by decide) sh_157 rfl vc_9 (by decide) inXX9 wfl_679 dX9_addCode_73 ?_
      refine g_iload_n C 1 dX9_addCode_76 rfl ?_
      obtain ⟨q77, h1, hf⟩ := g_bind hf
      refine g_aald C h1 dX9_addCode_77 ?_
      clear h1
      refine g_iload_n C 3 dX9_addCode_78 rfl ?_
      obtain ⟨v79, h1, hf⟩ := g_bind hf
      refine g_iald C h1 dX9_addCode_79 ?_
      clear h1
      obtain ⟨s80, h1, hf⟩ := g_bind hf
      refine g_iast C h1 dX9_addCode_80 ?_
      clear h1
      refine g_aload_n C 0 dX9_addCode_81 rfl ?_
      refine g_dup C dX9_addCode_82 rfl ?_
      refine g_geti C 9 25 (by decide) sh_157 rfl vc_9 (by decide) inXX9 wfl_686 dX9_addCode_83 ?_
      refine g_iconst C (v := 1) dX9_addCode_86 rfl ?_
      refine g_iadd C dX9_addCode_87 ?_
      obtain ⟨s88, h1, hf⟩ := g_bind hf
      refine g_put C 9 25 (by decide) sh_157 rfl (by decide) vc_9 (by decide) tyX9 tyX9_ok nmX9 inXX9 wfl_686 rfl (ty := .int) (by decide +kernel) rfl rfl dX9_addCode_88 ?_
      rw [Option.some.inj h1]
      clear h1
      exact w_X9_addCode_91 C  hQ A1 B1 hf
theorem wl_X9_addCode_36 {X : gX} {p1 : Int32} {x2 : Int32} {r0 : sg} (C : gC X cX9_addCode 4 RX9 none rm_X9_addCode)  (hQ : gQ X (qV (XG X) r0))  {n : Nat} {a : (Int32 × sg)} (hf : L_X9_addCode_36 p1 x2 n a = some r0) : G X 4 a.2 36 [(0, .ref (Xd X 157)), (1, .int p1), (2, .int x2), (3, .int a.1)] [] := by
  unfold L_X9_addCode_36 at hf
  have key := g_loop_ind (res := r0) (f := fun a => B_X9_addCode_36 p1 x2 a.1 a.2) (P := fun a => G X 4 a.2 36 [(0, .ref (Xd X 157)), (1, .int p1), (2, .int x2), (3, .int a.1)] []) (fun a r1 h1 k1 k2 => w_X9_addCode_36 (x3 := a.1) (σ := a.2) C  hQ  k1 k2 h1)
  exact key n a hf
theorem w_X9_addCode_e {X : gX} {σ : sg} {p1 : Int32} {r0 : sg} (C : gC X cX9_addCode 4 RX9 none rm_X9_addCode)  (hQ : gQ X (qV (XG X) r0)) (hf : f_X9_addCode σ p1 = some r0) : G X 4 σ 0 [(0, .ref (Xd X 157)), (1, .int p1)] [] := by
  unfold f_X9_addCode at hf
  refine g_aload_n C 0 dX9_addCode_0 rfl ?_
  refine g_geti C 9 25 (by decide) sh_157 rfl vc_9 (by decide) inXX9 wfl_686 dX9_addCode_1 ?_
  refine g_istore_n C (lv' := [(2, .int (σ 157 25)), (0, .ref (Xd X 157)), (1, .int p1)]) dX9_addCode_4 (by decide) rfl ?_
  refine g_aload_n C 1 dX9_addCode_5 rfl ?_
  refine g_getr C 9 23 (729) (by decide) sh_157 rfl vc_9 (by decide) inXX9 wfl_684 dX9_addCode_6 ?_
  refine g_iload_n C 0 dX9_addCode_9 rfl ?_
  refine g_bipush C (v := 8) dX9_addCode_10 rfl ?_
  refine g_aload_n C 1 dX9_addCode_12 rfl ?_
  refine g_getr C 9 20 (727) (by decide) sh_157 rfl vc_9 (by decide) inXX9 wfl_681 dX9_addCode_13 ?_
  refine g_iload_n C 2 dX9_addCode_16 rfl ?_
  obtain ⟨v17, h1, hf⟩ := g_bind hf
  refine g_iald C h1 dX9_addCode_17 ?_
  clear h1
  refine g_imul C dX9_addCode_18 ?_
  refine g_sipush C (v := 1000) dX9_addCode_19 rfl ?_
  refine g_iadd C dX9_addCode_22 ?_
  obtain ⟨s23, h1, hf⟩ := g_bind hf
  refine g_iast C h1 dX9_addCode_23 ?_
  clear h1
  refine g_aload_n C 1 dX9_addCode_24 rfl ?_
  refine g_dup C dX9_addCode_25 rfl ?_
  refine g_geti C 9 25 (by decide) sh_157 rfl vc_9 (by decide) inXX9 wfl_686 dX9_addCode_26 ?_
  refine g_iconst C (v := 1) dX9_addCode_29 rfl ?_
  refine g_iadd C dX9_addCode_30 ?_
  obtain ⟨s31, h1, hf⟩ := g_bind hf
  refine g_put C 9 25 (by decide) sh_157 rfl (by decide) vc_9 (by decide) tyX9 tyX9_ok nmX9 inXX9 wfl_686 rfl (ty := .int) (by decide +kernel) rfl rfl dX9_addCode_31 ?_
  rw [Option.some.inj h1]
  clear h1
  refine g_iconst C (v := 0) dX9_addCode_34 rfl ?_
  refine g_istore_n C (lv' := [(3, .int (0 : Int32)), (2, .int (σ 157 25)), (0, .ref (Xd X 157)), (1, .int p1)]) dX9_addCode_35 (by decide) rfl ?_
  refine g_sub [2, 3, 1, 0] rfl ?_
  exact wl_X9_addCode_36 (a := ((0 : Int32), s31)) C  hQ  hf
theorem c_X9_addCode (l : Launch) {Gw : gW} (hI : g_I Gw) {σ : sg} {p1 : Int32} {r : sg}  (hf : f_X9_addCode σ p1 = some r) : gM l Gw yX9_addCode cX9_addCode 4 none rm_X9_addCode [.ref (Gw.2.2 157), .int p1] σ (qV (Gw) r) := by
  refine g_met hI (by decide) (Nat.le_of_ble_eq_true rfl) (fun X h1 h2 C hQ => ?_)
  subst h1; subst h2
  exact w_X9_addCode_e C  hQ hf
theorem dX9_findCode_0 : decode cX9_findCode 0 = .ok (.aload_n 0, 1) := by decide +kernel
theorem dX9_findCode_1 : decode cX9_findCode 1 = .ok (.iconst 0, 1) := by decide +kernel
theorem dX9_findCode_2 : decode cX9_findCode 2 = .ok (.putfield 197, 3) := by decide +kernel
theorem dX9_findCode_5 : decode cX9_findCode 5 = .ok (.iconst (-1), 1) := by decide +kernel
theorem dX9_findCode_6 : decode cX9_findCode 6 = .ok (.istore_n 1, 1) := by decide +kernel
theorem dX9_findCode_7 : decode cX9_findCode 7 = .ok (.iconst 0, 1) := by decide +kernel
theorem dX9_findCode_8 : decode cX9_findCode 8 = .ok (.istore_n 2, 1) := by decide +kernel
theorem dX9_findCode_9 : decode cX9_findCode 9 = .ok (.iconst 0, 1) := by decide +kernel
theorem dX9_findCode_10 : decode cX9_findCode 10 = .ok (.istore_n 3, 1) := by decide +kernel
theorem dX9_findCode_11 : decode cX9_findCode 11 = .ok (.iload_n 3, 1) := by decide +kernel
theorem dX9_findCode_12 : decode cX9_findCode 12 = .ok (.aload_n 0, 1) := by decide +kernel
theorem dX9_findCode_13 : decode cX9_findCode 13 = .ok (.getfield 178, 3) := by decide +kernel
theorem dX9_findCode_16 : decode cX9_findCode 16 = .ok (.if_icmp .ge 108, 3) := by decide +kernel
theorem dX9_findCode_19 : decode cX9_findCode 19 = .ok (.aload_n 0, 1) := by decide +kernel
theorem dX9_findCode_20 : decode cX9_findCode 20 = .ok (.getfield 50, 3) := by decide +kernel
theorem dX9_findCode_23 : decode cX9_findCode 23 = .ok (.iload_n 3, 1) := by decide +kernel
theorem dX9_findCode_24 : decode cX9_findCode 24 = .ok (.iaload, 1) := by decide +kernel
theorem dX9_findCode_25 : decode cX9_findCode 25 = .ok (.iload_n 1, 1) := by decide +kernel
theorem dX9_findCode_26 : decode cX9_findCode 26 = .ok (.if_icmp .eq 22, 3) := by decide +kernel
theorem dX9_findCode_29 : decode cX9_findCode 29 = .ok (.aload_n 0, 1) := by decide +kernel
theorem dX9_findCode_30 : decode cX9_findCode 30 = .ok (.getfield 50, 3) := by decide +kernel
theorem dX9_findCode_33 : decode cX9_findCode 33 = .ok (.iload_n 3, 1) := by decide +kernel
theorem dX9_findCode_34 : decode cX9_findCode 34 = .ok (.iaload, 1) := by decide +kernel
theorem dX9_findCode_35 : decode cX9_findCode 35 = .ok (.istore_n 1, 1) := by decide +kernel
theorem dX9_findCode_36 : decode cX9_findCode 36 = .ok (.aload_n 0, 1) := by decide +kernel
theorem dX9_findCode_37 : decode cX9_findCode 37 = .ok (.getfield 56, 3) := by decide +kernel
theorem dX9_findCode_40 : decode cX9_findCode 40 = .ok (.iload_n 1, 1) := by decide +kernel
theorem dX9_findCode_41 : decode cX9_findCode 41 = .ok (.aload_n 0, 1) := by decide +kernel
theorem dX9_findCode_42 : decode cX9_findCode 42 = .ok (.getfield 197, 3) := by decide +kernel
theorem dX9_findCode_45 : decode cX9_findCode 45 = .ok (.iastore, 1) := by decide +kernel
theorem dX9_findCode_46 : decode cX9_findCode 46 = .ok (.iconst 0, 1) := by decide +kernel
theorem dX9_findCode_47 : decode cX9_findCode 47 = .ok (.istore_n 2, 1) := by decide +kernel
theorem dX9_findCode_48 : decode cX9_findCode 48 = .ok (.aload_n 0, 1) := by decide +kernel
theorem dX9_findCode_49 : decode cX9_findCode 49 = .ok (.iload_n 3, 1) := by decide +kernel
theorem dX9_findCode_50 : decode cX9_findCode 50 = .ok (.invokevirtual 200, 3) := by decide +kernel
theorem dX9_findCode_53 : decode cX9_findCode 53 = .ok (.ifCond .eq 58, 3) := by decide +kernel
theorem dX9_findCode_56 : decode cX9_findCode 56 = .ok (.aload_n 0, 1) := by decide +kernel
theorem dX9_findCode_57 : decode cX9_findCode 57 = .ok (.dup, 1) := by decide +kernel
theorem dX9_findCode_58 : decode cX9_findCode 58 = .ok (.getfield 197, 3) := by decide +kernel
theorem dX9_findCode_61 : decode cX9_findCode 61 = .ok (.iload_n 2, 1) := by decide +kernel
theorem dX9_findCode_62 : decode cX9_findCode 62 = .ok (.ifCond .eq 7, 3) := by decide +kernel
theorem dX9_findCode_65 : decode cX9_findCode 65 = .ok (.iconst 0, 1) := by decide +kernel
theorem dX9_findCode_66 : decode cX9_findCode 66 = .ok (.goto 4, 3) := by decide +kernel
theorem dX9_findCode_69 : decode cX9_findCode 69 = .ok (.iconst 1, 1) := by decide +kernel
theorem dX9_findCode_70 : decode cX9_findCode 70 = .ok (.iadd, 1) := by decide +kernel
theorem dX9_findCode_71 : decode cX9_findCode 71 = .ok (.putfield 197, 3) := by decide +kernel
theorem dX9_findCode_74 : decode cX9_findCode 74 = .ok (.aload_n 0, 1) := by decide +kernel
theorem dX9_findCode_75 : decode cX9_findCode 75 = .ok (.getfield 53, 3) := by decide +kernel
theorem dX9_findCode_78 : decode cX9_findCode 78 = .ok (.aload_n 0, 1) := by decide +kernel
theorem dX9_findCode_79 : decode cX9_findCode 79 = .ok (.getfield 197, 3) := by decide +kernel
theorem dX9_findCode_82 : decode cX9_findCode 82 = .ok (.iconst 1, 1) := by decide +kernel
theorem dX9_findCode_83 : decode cX9_findCode 83 = .ok (.isub, 1) := by decide +kernel
theorem dX9_findCode_84 : decode cX9_findCode 84 = .ok (.iload_n 2, 1) := by decide +kernel
theorem dX9_findCode_85 : decode cX9_findCode 85 = .ok (.ifCond .eq 19, 3) := by decide +kernel
theorem dX9_findCode_88 : decode cX9_findCode 88 = .ok (.aload_n 0, 1) := by decide +kernel
theorem dX9_findCode_89 : decode cX9_findCode 89 = .ok (.getfield 53, 3) := by decide +kernel
theorem dX9_findCode_92 : decode cX9_findCode 92 = .ok (.aload_n 0, 1) := by decide +kernel
theorem dX9_findCode_93 : decode cX9_findCode 93 = .ok (.getfield 197, 3) := by decide +kernel
theorem dX9_findCode_96 : decode cX9_findCode 96 = .ok (.iconst 1, 1) := by decide +kernel
theorem dX9_findCode_97 : decode cX9_findCode 97 = .ok (.isub, 1) := by decide +kernel
theorem dX9_findCode_98 : decode cX9_findCode 98 = .ok (.iaload, 1) := by decide +kernel
theorem dX9_findCode_99 : decode cX9_findCode 99 = .ok (.iconst 1, 1) := by decide +kernel
theorem dX9_findCode_100 : decode cX9_findCode 100 = .ok (.isub, 1) := by decide +kernel
theorem dX9_findCode_101 : decode cX9_findCode 101 = .ok (.goto 4, 3) := by decide +kernel
theorem dX9_findCode_104 : decode cX9_findCode 104 = .ok (.iconst (-1), 1) := by decide +kernel
theorem dX9_findCode_105 : decode cX9_findCode 105 = .ok (.iastore, 1) := by decide +kernel
theorem dX9_findCode_106 : decode cX9_findCode 106 = .ok (.iconst 1, 1) := by decide +kernel
theorem dX9_findCode_107 : decode cX9_findCode 107 = .ok (.istore_n 2, 1) := by decide +kernel
theorem dX9_findCode_108 : decode cX9_findCode 108 = .ok (.goto 10, 3) := by decide +kernel
theorem dX9_findCode_111 : decode cX9_findCode 111 = .ok (.iconst 0, 1) := by decide +kernel
theorem dX9_findCode_112 : decode cX9_findCode 112 = .ok (.istore_n 2, 1) := by decide +kernel
theorem dX9_findCode_113 : decode cX9_findCode 113 = .ok (.aload_n 0, 1) := by decide +kernel
theorem dX9_findCode_114 : decode cX9_findCode 114 = .ok (.iload_n 3, 1) := by decide +kernel
theorem dX9_findCode_115 : decode cX9_findCode 115 = .ok (.invokevirtual 203, 3) := by decide +kernel
theorem dX9_findCode_118 : decode cX9_findCode 118 = .ok (.iinc 3 1, 3) := by decide +kernel
theorem dX9_findCode_121 : decode cX9_findCode 121 = .ok (.goto (-110), 3) := by decide +kernel
theorem dX9_findCode_124 : decode cX9_findCode 124 = .ok (.return_, 1) := by decide +kernel
abbrev rm_X9_findCode : Room := { frames := 1, cells := 0, slots := 0, locals := 23 }
theorem w_X9_findCode_118 {X : gX} {x1 : Int32} {x2 : Int32} {x3 : Int32} {σ : sg} {r0 : sg} {r1 : ((Int32 × Int32 × Int32 × sg) ⊕ sg)} (C : gC X cX9_findCode 4 RX9 none rm_X9_findCode)  (hQ : gQ X (qV (XG X) r0)) (A1 : ∀ b, r1 = .inl b → G X 4 b.2.2.2 11 [(0, .ref (Xd X 157)), (1, .int b.1), (2, .int b.2.1), (3, .int b.2.2.1)] []) (B1 : ∀ b, r1 = .inr b → b = r0) (hf : J_X9_findCode_118 x1 x2 x3 σ = some r1) : G X 4 σ 118 [(0, .ref (Xd X 157)), (1, .int x1), (2, .int x2), (3, .int x3)] [] := by
  unfold J_X9_findCode_118 at hf
  refine g_iinc C (v := x3 + (1 : Int32)) (lv' := [(3, .int (x3 + (1 : Int32))), (0, .ref (Xd X 157)), (1, .int x1), (2, .int x2)]) 3 dX9_findCode_118 rfl rfl (by decide) rfl ?_
  refine g_goto C 11 dX9_findCode_121 (by decide) ?_
  refine g_sub [1, 2, 3, 0] rfl ?_
  exact A1 (x1, x2, x3 + (1 : Int32), σ) (Option.some.inj hf).symm
theorem w_X9_findCode_105 {X : gX} {x1 : Int32} {x3 : Int32} {t0 : Int32} {t1 : Int32} {t2 : Nat} {σ : sg} {r0 : sg} {r1 : ((Int32 × Int32 × Int32 × sg) ⊕ sg)} (C : gC X cX9_findCode 4 RX9 none rm_X9_findCode)  (hQ : gQ X (qV (XG X) r0)) (A1 : ∀ b, r1 = .inl b → G X 4 b.2.2.2 11 [(0, .ref (Xd X 157)), (1, .int b.1), (2, .int b.2.1), (3, .int b.2.2.1)] []) (B1 : ∀ b, r1 = .inr b → b = r0) (hf : J_X9_findCode_105 x1 x3 t0 t1 t2 σ = some r1) : G X 4 σ 105 [(0, .ref (Xd X 157)), (1, .int x1), (3, .int x3)] [.int t0, .int t1, .ref (Xd X t2)] := by
  unfold J_X9_findCode_105 at hf
  obtain ⟨s105, h1, hf⟩ := g_bind hf
  refine g_iast C h1 dX9_findCode_105 ?_
  clear h1
  refine g_iconst C (v := 1) dX9_findCode_106 rfl ?_
  refine g_istore_n C (lv' := [(2, .int (1 : Int32)), (0, .ref (Xd X 157)), (1, .int x1), (3, .int x3)]) dX9_findCode_107 (by decide) rfl ?_
  refine g_goto C 118 dX9_findCode_108 (by decide) ?_
  refine g_sub [1, 2, 0, 3] rfl ?_
  exact w_X9_findCode_118 C  hQ A1 B1 hf
theorem w_X9_findCode_70 {X : gX} {x1 : Int32} {x2 : Int32} {x3 : Int32} {t0 : Int32} {t1 : Int32} {σ : sg} {r0 : sg} {r1 : ((Int32 × Int32 × Int32 × sg) ⊕ sg)} (C : gC X cX9_findCode 4 RX9 none rm_X9_findCode)  (hQ : gQ X (qV (XG X) r0)) (A1 : ∀ b, r1 = .inl b → G X 4 b.2.2.2 11 [(0, .ref (Xd X 157)), (1, .int b.1), (2, .int b.2.1), (3, .int b.2.2.1)] []) (B1 : ∀ b, r1 = .inr b → b = r0) (hf : J_X9_findCode_70 x1 x2 x3 t0 t1 σ = some r1) : G X 4 σ 70 [(0, .ref (Xd X 157)), (1, .int x1), (2, .int x2), (3, .int x3)] [.int t0, .int t1, .ref (Xd X 157)] := by
  unfold J_X9_findCode_70 at hf
  refine g_iadd C dX9_findCode_70 ?_
  obtain ⟨s71, h1, hf⟩ := g_bind hf
  refine g_put C 9 25 (by decide) sh_157 rfl (by decide) vc_9 (by decide) tyX9 tyX9_ok nmX9 inXX9 wfl_686 rfl (ty := .int) (by decide +kernel) rfl rfl dX9_findCode_71 ?_
  rw [Option.some.inj h1]
  clear h1
  refine g_aload_n C 0 dX9_findCode_74 rfl ?_
  refine g_getr C 9 23 (729) (by decide) sh_157 rfl vc_9 (by decide) inXX9 wfl_684 dX9_findCode_75 ?_
  refine g_aload_n C 0 dX9_findCode_78 rfl ?_
  refine g_geti C 9 25 (by decide) sh_157 rfl vc_9 (by decide) inXX9 wfl_686 dX9_findCode_79 ?_
  refine g_iconst C (v := 1) dX9_findCode_82 rfl ?_
  refine g_isub C dX9_findCode_83 ?_
  refine g_iload_n C 2 dX9_findCode_84 rfl ?_
  refine g_if_eq C 104 hf dX9_findCode_85 (by decide) (fun hf => ?_) (fun hf => ?_)
  · refine g_iconst C (v := (-1)) dX9_findCode_104 rfl ?_
    refine g_sub [0, 1, 3] rfl ?_
    exact w_X9_findCode_105 C  hQ A1 B1 hf
  · refine g_aload_n C 0 dX9_findCode_88 rfl ?_
    refine g_getr C 9 23 (729) (by decide) sh_157 rfl vc_9 (by decide) inXX9 wfl_684 dX9_findCode_89 ?_
    refine g_aload_n C 0 dX9_findCode_92 rfl ?_
    refine g_geti C 9 25 (by decide) sh_157 rfl vc_9 (by decide) inXX9 wfl_686 dX9_findCode_93 ?_
    refine g_iconst C (v := 1) dX9_findCode_96 rfl ?_
    refine g_isub C dX9_findCode_97 ?_
    obtain ⟨v98, h1, hf⟩ := g_bind hf
    refine g_iald C h1 dX9_findCode_98 ?_
    clear h1
    refine g_iconst C (v := 1) dX9_findCode_99 rfl ?_
    refine g_isub C dX9_findCode_100 ?_
    refine g_goto C 105 dX9_findCode_101 (by decide) ?_
    refine g_sub [0, 1, 3] rfl ?_
    exact w_X9_findCode_105 C  hQ A1 B1 hf
theorem w_X9_findCode_48 {X : gX} {x1 : Int32} {x2 : Int32} {x3 : Int32} {σ : sg} {r0 : sg} {r1 : ((Int32 × Int32 × Int32 × sg) ⊕ sg)} (C : gC X cX9_findCode 4 RX9 none rm_X9_findCode)  (hQ : gQ X (qV (XG X) r0)) (A1 : ∀ b, r1 = .inl b → G X 4 b.2.2.2 11 [(0, .ref (Xd X 157)), (1, .int b.1), (2, .int b.2.1), (3, .int b.2.2.1)] []) (B1 : ∀ b, r1 = .inr b → b = r0) (hf : J_X9_findCode_48 x1 x2 x3 σ = some r1) : G X 4 σ 48 [(0, .ref (Xd X 157)), (1, .int x1), (2, .int x2), (3, .int x3)] [] := by
  unfold J_X9_findCode_48 at hf
  refine g_aload_n C 0 dX9_findCode_48 rfl ?_
  refine g_iload_n C 3 dX9_findCode_49 rfl ?_
  obtain ⟨v50, h1, hf⟩ := g_bind hf
  refine g_callVi C 1 [.int x3] (c_X9_isEmpty (Xl X) (gC_I C)  h1) ⟨wml_958, wim_960, wsp_33, win_10, wcd_961⟩ (by decide) sh_157 vc_9 rfl hd_X9_isEmpty ⟨rfl, rfl⟩ ⟨Nat.le_of_ble_eq_true rfl, Nat.le_of_ble_eq_true rfl⟩ rfl rfl (Nat.le_of_ble_eq_true rfl) dX9_findCode_50 ?_
  clear h1
  refine g_if_eq C 111 hf dX9_findCode_53 (by decide) (fun hf => ?_) (fun hf => ?_)
  · refine g_iconst C (v := 0) dX9_findCode_111 rfl ?_
    refine g_istore_n C (lv' := [(2, .int (0 : Int32)), (0, .ref (Xd X 157)), (1, .int x1), (3, .int x3)]) dX9_findCode_112 (by decide) rfl ?_
    refine g_aload_n C 1 dX9_findCode_113 rfl ?_
    refine g_iload_n C 3 dX9_findCode_114 rfl ?_
    obtain ⟨s115, h1, hf⟩ := g_bind hf
    refine g_callVv C 1 [.int x3] (c_X9_addCode (Xl X) (gC_I C)  h1) ⟨wml_962, wim_964, wsp_34, win_10, wcd_965⟩ (by decide) sh_157 vc_9 rfl hd_X9_addCode ⟨rfl, rfl⟩ ⟨Nat.le_of_ble_eq_true rfl, Nat.le_of_ble_eq_true rfl⟩ rfl rfl (Nat.le_of_ble_eq_true rfl) dX9_findCode_115 ?_
    clear h1
    refine g_sub [1, 2, 0, 3] rfl ?_
    exact w_X9_findCode_118 C  hQ A1 B1 hf
  · refine g_aload_n C 0 dX9_findCode_56 rfl ?_
    refine g_dup C dX9_findCode_57 rfl ?_
    refine g_geti C 9 25 (by decide) sh_157 rfl vc_9 (by decide) inXX9 wfl_686 dX9_findCode_58 ?_
    refine g_iload_n C 2 dX9_findCode_61 rfl ?_
    refine g_if_eq C 69 hf dX9_findCode_62 (by decide) (fun hf => ?_) (fun hf => ?_)
    · refine g_iconst C (v := 1) dX9_findCode_69 rfl ?_
      exact w_X9_findCode_70 C  hQ A1 B1 hf
    · refine g_iconst C (v := 0) dX9_findCode_65 rfl ?_
      refine g_goto C 70 dX9_findCode_66 (by decide) ?_
      exact w_X9_findCode_70 C  hQ A1 B1 hf
theorem w_X9_findCode_11 {X : gX} {x1 : Int32} {x2 : Int32} {x3 : Int32} {σ : sg} {r0 : sg} {r1 : ((Int32 × Int32 × Int32 × sg) ⊕ sg)} (C : gC X cX9_findCode 4 RX9 none rm_X9_findCode)  (hQ : gQ X (qV (XG X) r0)) (A1 : ∀ b, r1 = .inl b → G X 4 b.2.2.2 11 [(0, .ref (Xd X 157)), (1, .int b.1), (2, .int b.2.1), (3, .int b.2.2.1)] []) (B1 : ∀ b, r1 = .inr b → b = r0) (hf : B_X9_findCode_11 x1 x2 x3 σ = some r1) : G X 4 σ 11 [(0, .ref (Xd X 157)), (1, .int x1), (2, .int x2), (3, .int x3)] [] := by
  unfold B_X9_findCode_11 at hf
  refine g_iload_n C 3 dX9_findCode_11 rfl ?_
  refine g_aload_n C 0 dX9_findCode_12 rfl ?_
  refine g_geti C 9 17 (by decide) sh_157 rfl vc_9 (by decide) inXX9 wfl_678 dX9_findCode_13 ?_
  refine g_icmp_ge C 124 hf dX9_findCode_16 (by decide) (fun hf => ?_) (fun hf => ?_)
  · have e0 : r0 = σ := (B1 _ (Option.some.inj hf).symm).symm
    exact g_vret C rfl hQ (by rw [e0]) dX9_findCode_124
  · refine g_aload_n C 0 dX9_findCode_19 rfl ?_
    refine g_getr C 9 21 (728) (by decide) sh_157 rfl vc_9 (by decide) inXX9 wfl_682 dX9_findCode_20 ?_
    refine g_iload_n C 3 dX9_findCode_23 rfl ?_
    obtain ⟨v24, h1, hf⟩ := g_bind hf
    refine g_iald C h1 dX9_findCode_24 ?_
    clear h1
    refine g_iload_n C 1 dX9_findCode_25 rfl ?_
    refine g_icmp_eq C 48 hf dX9_findCode_26 (by decide) (fun hf => ?_) (fun hf => ?_)
    · exact w_X9_findCode_48 C  hQ A1 B1 hf
    · refine g_aload_n C 0 dX9_findCode_29 rfl ?_
      refine g_getr C 9 21 (728) (by decide) sh_157 rfl vc_9 (by decide) inXX9 wfl_682 dX9_findCode_30 ?_
      refine g_iload_n C 3 dX9_findCode_33 rfl ?_
      obtain ⟨v34, h1, hf⟩ := g_bind hf
      refine g_iald C h1 dX9_findCode_34 ?_
      clear h1
      refine g_istore_n C (lv' := [(1, .int v34), (0, .ref (Xd X 157)), (2, .int x2), (3, .int x3)]) dX9_findCode_35 (by decide) rfl ?_
      refine g_aload_n C 1 dX9_findCode_36 rfl ?_
      refine g_getr C 9 24 (730) (by decide) sh_157 rfl vc_9 (by decide) inXX9 wfl_685 dX9_findCode_37 ?_
      refine g_iload_n C 0 dX9_findCode_40 rfl ?_
      refine g_aload_n C 1 dX9_findCode_41 rfl ?_
      refine g_geti C 9 25 (by decide) sh_157 rfl vc_9 (by decide) inXX9 wfl_686 dX9_findCode_42 ?_
      obtain ⟨s45, h1, hf⟩ := g_bind hf
      refine g_iast C h1 dX9_findCode_45 ?_
      clear h1
      refine g_iconst C (v := 0) dX9_findCode_46 rfl ?_
      refine g_istore_n C (lv' := [(2, .int (0 : Int32)), (1, .int v34), (0, .ref (Xd X 157)), (3, .int x3)]) dX9_findCode_47 (by decide) rfl ?_
      refine g_sub [2, 1, 0, 3] rfl ?_
      exact w_X9_findCode_48 C  hQ A1 B1 hf
theorem wl_X9_findCode_11 {X : gX}  {r0 : sg} (C : gC X cX9_findCode 4 RX9 none rm_X9_findCode)  (hQ : gQ X (qV (XG X) r0))  {n : Nat} {a : (Int32 × Int32 × Int32 × sg)} (hf : L_X9_findCode_11  n a = some r0) : G X 4 a.2.2.2 11 [(0, .ref (Xd X 157)), (1, .int a.1), (2, .int a.2.1), (3, .int a.2.2.1)] [] := by
  unfold L_X9_findCode_11 at hf
  have key := g_loop_ind (res := r0) (f := fun a => B_X9_findCode_11 a.1 a.2.1 a.2.2.1 a.2.2.2) (P := fun a => G X 4 a.2.2.2 11 [(0, .ref (Xd X 157)), (1, .int a.1), (2, .int a.2.1), (3, .int a.2.2.1)] []) (fun a r1 h1 k1 k2 => w_X9_findCode_11 (x1 := a.1) (x2 := a.2.1) (x3 := a.2.2.1) (σ := a.2.2.2) C  hQ  k1 k2 h1)
  exact key n a hf
theorem w_X9_findCode_e {X : gX} {σ : sg}  {r0 : sg} (C : gC X cX9_findCode 4 RX9 none rm_X9_findCode)  (hQ : gQ X (qV (XG X) r0)) (hf : f_X9_findCode σ = some r0) : G X 4 σ 0 [(0, .ref (Xd X 157))] [] := by
  unfold f_X9_findCode at hf
  refine g_aload_n C 0 dX9_findCode_0 rfl ?_
  refine g_iconst C (v := 0) dX9_findCode_1 rfl ?_
  obtain ⟨s2, h1, hf⟩ := g_bind hf
  refine g_put C 9 25 (by decide) sh_157 rfl (by decide) vc_9 (by decide) tyX9 tyX9_ok nmX9 inXX9 wfl_686 rfl (ty := .int) (by decide +kernel) rfl rfl dX9_findCode_2 ?_
  rw [Option.some.inj h1]
  clear h1
  refine g_iconst C (v := (-1)) dX9_findCode_5 rfl ?_
  refine g_istore_n C (lv' := [(1, .int (-1 : Int32)), (0, .ref (Xd X 157))]) dX9_findCode_6 (by decide) rfl ?_
  refine g_iconst C (v := 0) dX9_findCode_7 rfl ?_
  refine g_istore_n C (lv' := [(2, .int (0 : Int32)), (1, .int (-1 : Int32)), (0, .ref (Xd X 157))]) dX9_findCode_8 (by decide) rfl ?_
  refine g_iconst C (v := 0) dX9_findCode_9 rfl ?_
  refine g_istore_n C (lv' := [(3, .int (0 : Int32)), (2, .int (0 : Int32)), (1, .int (-1 : Int32)), (0, .ref (Xd X 157))]) dX9_findCode_10 (by decide) rfl ?_
  refine g_sub [3, 2, 1, 0] rfl ?_
  exact wl_X9_findCode_11 (a := ((-1 : Int32), (0 : Int32), (0 : Int32), s2)) C  hQ  hf
theorem c_X9_findCode (l : Launch) {Gw : gW} (hI : g_I Gw) {σ : sg}  {r : sg}  (hf : f_X9_findCode σ = some r) : gM l Gw yX9_findCode cX9_findCode 4 none rm_X9_findCode [.ref (Gw.2.2 157)] σ (qV (Gw) r) := by
  refine g_met hI (by decide) (Nat.le_of_ble_eq_true rfl) (fun X h1 h2 C hQ => ?_)
  subst h1; subst h2
  exact w_X9_findCode_e C  hQ hf
theorem dX9_codeLength_0 : decode cX9_codeLength 0 = .ok (.aload_n 0, 1) := by decide +kernel
theorem dX9_codeLength_1 : decode cX9_codeLength 1 = .ok (.getfield 100, 3) := by decide +kernel
theorem dX9_codeLength_4 : decode cX9_codeLength 4 = .ok (.ifCond .ne 6, 3) := by decide +kernel
theorem dX9_codeLength_7 : decode cX9_codeLength 7 = .ok (.bipush (-5), 2) := by decide +kernel
theorem dX9_codeLength_9 : decode cX9_codeLength 9 = .ok (.ireturn, 1) := by decide +kernel
theorem dX9_codeLength_10 : decode cX9_codeLength 10 = .ok (.aload_n 0, 1) := by decide +kernel
theorem dX9_codeLength_11 : decode cX9_codeLength 11 = .ok (.invokevirtual 207, 3) := by decide +kernel
theorem dX9_codeLength_14 : decode cX9_codeLength 14 = .ok (.aload_n 0, 1) := by decide +kernel
theorem dX9_codeLength_15 : decode cX9_codeLength 15 = .ok (.getfield 197, 3) := by decide +kernel
theorem dX9_codeLength_18 : decode cX9_codeLength 18 = .ok (.ireturn, 1) := by decide +kernel
abbrev rm_X9_codeLength : Room := { frames := 2, cells := 0, slots := 0, locals := 46 }
theorem w_X9_codeLength_e {X : gX} {σ : sg}  {r0 : (Int32 × sg)} (C : gC X cX9_codeLength 1 RX9 (some .int) rm_X9_codeLength)  (hQ : gQ X (qI (XG X) r0.1 r0.2)) (hf : f_X9_codeLength σ = some r0) : G X 1 σ 0 [(0, .ref (Xd X 157))] [] := by
  unfold f_X9_codeLength at hf
  refine g_aload_n C 0 dX9_codeLength_0 rfl ?_
  refine g_geti C 9 16 (by decide) sh_157 rfl vc_9 (by decide) inXX9 wfl_677 dX9_codeLength_1 ?_
  refine g_if_ne C 10 hf dX9_codeLength_4 (by decide) (fun hf => ?_) (fun hf => ?_)
  · refine g_bipush C (v := (-5)) dX9_codeLength_7 rfl ?_
    have e0 : r0 = ((-5 : Int32), σ) := (Option.some.inj hf).symm
    exact g_iret C rfl hQ (by rw [e0]) rfl dX9_codeLength_9
  · refine g_aload_n C 0 dX9_codeLength_10 rfl ?_
    obtain ⟨s11, h1, hf⟩ := g_bind hf
    refine g_callVv C 0 [] (c_X9_findCode (Xl X) (gC_I C)  h1) ⟨wml_954, wim_956, wsp_32, win_10, wcd_957⟩ (by decide) sh_157 vc_9 rfl hd_X9_findCode ⟨rfl, rfl⟩ ⟨Nat.le_of_ble_eq_true rfl, Nat.le_of_ble_eq_true rfl⟩ rfl rfl (Nat.le_of_ble_eq_true rfl) dX9_codeLength_11 ?_
    clear h1
    refine g_aload_n C 0 dX9_codeLength_14 rfl ?_
    refine g_geti C 9 25 (by decide) sh_157 rfl vc_9 (by decide) inXX9 wfl_686 dX9_codeLength_15 ?_
    have e0 : r0 = (s11 157 25, s11) := (Option.some.inj hf).symm
    exact g_iret C rfl hQ (by rw [e0]) rfl dX9_codeLength_18
theorem c_X9_codeLength (l : Launch) {Gw : gW} (hI : g_I Gw) {σ : sg}  {r : (Int32 × sg)}  (hf : f_X9_codeLength σ = some r) : gM l Gw yX9_codeLength cX9_codeLength 1 (some .int) rm_X9_codeLength [.ref (Gw.2.2 157)] σ (qI (Gw) r.1 r.2) := by
  refine g_met hI (by decide) (Nat.le_of_ble_eq_true rfl) (fun X h1 h2 C hQ => ?_)
  subst h1; subst h2
  exact w_X9_codeLength_e C  hQ hf
theorem dX9_code_0 : decode cX9_code 0 = .ok (.aload_n 0, 1) := by decide +kernel
theorem dX9_code_1 : decode cX9_code 1 = .ok (.getfield 100, 3) := by decide +kernel
theorem dX9_code_4 : decode cX9_code 4 = .ok (.ifCond .ne 6, 3) := by decide +kernel
theorem dX9_code_7 : decode cX9_code 7 = .ok (.bipush (-5), 2) := by decide +kernel
theorem dX9_code_9 : decode cX9_code 9 = .ok (.ireturn, 1) := by decide +kernel
theorem dX9_code_10 : decode cX9_code 10 = .ok (.aload_n 0, 1) := by decide +kernel
theorem dX9_code_11 : decode cX9_code 11 = .ok (.invokevirtual 207, 3) := by decide +kernel
theorem dX9_code_14 : decode cX9_code 14 = .ok (.iload_n 1, 1) := by decide +kernel
theorem dX9_code_15 : decode cX9_code 15 = .ok (.iconst 0, 1) := by decide +kernel
theorem dX9_code_16 : decode cX9_code 16 = .ok (.aload_n 0, 1) := by decide +kernel
theorem dX9_code_17 : decode cX9_code 17 = .ok (.getfield 197, 3) := by decide +kernel
theorem dX9_code_20 : decode cX9_code 20 = .ok (.iconst 1, 1) := by decide +kernel
theorem dX9_code_21 : decode cX9_code 21 = .ok (.isub, 1) := by decide +kernel
theorem dX9_code_22 : decode cX9_code 22 = .ok (.invokestatic 77, 3) := by decide +kernel
theorem dX9_code_25 : decode cX9_code 25 = .ok (.ifCond .eq 16, 3) := by decide +kernel
theorem dX9_code_28 : decode cX9_code 28 = .ok (.aload_n 0, 1) := by decide +kernel
theorem dX9_code_29 : decode cX9_code 29 = .ok (.getfield 53, 3) := by decide +kernel
theorem dX9_code_32 : decode cX9_code 32 = .ok (.iload_n 1, 1) := by decide +kernel
theorem dX9_code_33 : decode cX9_code 33 = .ok (.iaload, 1) := by decide +kernel
theorem dX9_code_34 : decode cX9_code 34 = .ok (.sipush 2000, 3) := by decide +kernel
theorem dX9_code_37 : decode cX9_code 37 = .ok (.iadd, 1) := by decide +kernel
theorem dX9_code_38 : decode cX9_code 38 = .ok (.goto 4, 3) := by decide +kernel
theorem dX9_code_41 : decode cX9_code 41 = .ok (.iconst (-1), 1) := by decide +kernel
theorem dX9_code_42 : decode cX9_code 42 = .ok (.ireturn, 1) := by decide +kernel
abbrev rm_X9_code : Room := { frames := 2, cells := 0, slots := 0, locals := 46 }
theorem w_X9_code_e {X : gX} {σ : sg} {p1 : Int32} {r0 : (Int32 × sg)} (C : gC X cX9_code 2 RX9 (some .int) rm_X9_code)  (hQ : gQ X (qI (XG X) r0.1 r0.2)) (hf : f_X9_code σ p1 = some r0) : G X 2 σ 0 [(0, .ref (Xd X 157)), (1, .int p1)] [] := by
  unfold f_X9_code at hf
  refine g_aload_n C 0 dX9_code_0 rfl ?_
  refine g_geti C 9 16 (by decide) sh_157 rfl vc_9 (by decide) inXX9 wfl_677 dX9_code_1 ?_
  refine g_if_ne C 10 hf dX9_code_4 (by decide) (fun hf => ?_) (fun hf => ?_)
  · refine g_bipush C (v := (-5)) dX9_code_7 rfl ?_
    have e0 : r0 = ((-5 : Int32), σ) := (Option.some.inj hf).symm
    exact g_iret C rfl hQ (by rw [e0]) rfl dX9_code_9
  · refine g_aload_n C 0 dX9_code_10 rfl ?_
    obtain ⟨s11, h1, hf⟩ := g_bind hf
    refine g_callVv C 0 [] (c_X9_findCode (Xl X) (gC_I C)  h1) ⟨wml_954, wim_956, wsp_32, win_10, wcd_957⟩ (by decide) sh_157 vc_9 rfl hd_X9_findCode ⟨rfl, rfl⟩ ⟨Nat.le_of_ble_eq_true rfl, Nat.le_of_ble_eq_true rfl⟩ rfl rfl (Nat.le_of_ble_eq_true rfl) dX9_code_11 ?_
    clear h1
    refine g_iload_n C 1 dX9_code_14 rfl ?_
    refine g_iconst C (v := 0) dX9_code_15 rfl ?_
    refine g_aload_n C 0 dX9_code_16 rfl ?_
    refine g_geti C 9 25 (by decide) sh_157 rfl vc_9 (by decide) inXX9 wfl_686 dX9_code_17 ?_
    refine g_iconst C (v := 1) dX9_code_20 rfl ?_
    refine g_isub C dX9_code_21 ?_
    obtain ⟨v22, h1, hf⟩ := g_bind hf
    refine g_callSi C 3 [.int p1, .int (0 : Int32), .int ((s11 157 25) - (1 : Int32))] (c_X9_isBetween (Xl X) (gC_I C)  h1) ⟨wml_771, wst_772, win_10, wcd_773⟩ hd_X9_isBetween ⟨rfl, rfl⟩ ⟨Nat.le_of_ble_eq_true rfl, Nat.le_of_ble_eq_true rfl⟩ rfl rfl (Nat.le_of_ble_eq_true rfl) dX9_code_22 ?_
    clear h1
    refine g_if_eq C 41 hf dX9_code_25 (by decide) (fun hf => ?_) (fun hf => ?_)
    · refine g_iconst C (v := (-1)) dX9_code_41 rfl ?_
      have e0 : r0 = ((-1 : Int32), s11) := (Option.some.inj hf).symm
      exact g_iret C rfl hQ (by rw [e0]) rfl dX9_code_42
    · refine g_aload_n C 0 dX9_code_28 rfl ?_
      refine g_getr C 9 23 (729) (by decide) sh_157 rfl vc_9 (by decide) inXX9 wfl_684 dX9_code_29 ?_
      refine g_iload_n C 1 dX9_code_32 rfl ?_
      obtain ⟨v33, h1, hf⟩ := g_bind hf
      refine g_iald C h1 dX9_code_33 ?_
      clear h1
      refine g_sipush C (v := 2000) dX9_code_34 rfl ?_
      refine g_iadd C dX9_code_37 ?_
      refine g_goto C 42 dX9_code_38 (by decide) ?_
      have e0 : r0 = (v33 + (2000 : Int32), s11) := (Option.some.inj hf).symm
      exact g_iret C rfl hQ (by rw [e0]) rfl dX9_code_42
theorem c_X9_code (l : Launch) {Gw : gW} (hI : g_I Gw) {σ : sg} {p1 : Int32} {r : (Int32 × sg)}  (hf : f_X9_code σ p1 = some r) : gM l Gw yX9_code cX9_code 2 (some .int) rm_X9_code [.ref (Gw.2.2 157), .int p1] σ (qI (Gw) r.1 r.2) := by
  refine g_met hI (by decide) (Nat.le_of_ble_eq_true rfl) (fun X h1 h2 C hQ => ?_)
  subst h1; subst h2
  exact w_X9_code_e C  hQ hf
theorem dX9_codeIndex_0 : decode cX9_codeIndex 0 = .ok (.aload_n 0, 1) := by decide +kernel
theorem dX9_codeIndex_1 : decode cX9_codeIndex 1 = .ok (.getfield 100, 3) := by decide +kernel
theorem dX9_codeIndex_4 : decode cX9_codeIndex 4 = .ok (.ifCond .ne 6, 3) := by decide +kernel
theorem dX9_codeIndex_7 : decode cX9_codeIndex 7 = .ok (.bipush (-5), 2) := by decide +kernel
theorem dX9_codeIndex_9 : decode cX9_codeIndex 9 = .ok (.ireturn, 1) := by decide +kernel
theorem dX9_codeIndex_10 : decode cX9_codeIndex 10 = .ok (.aload_n 0, 1) := by decide +kernel
theorem dX9_codeIndex_11 : decode cX9_codeIndex 11 = .ok (.invokevirtual 144, 3) := by decide +kernel
theorem dX9_codeIndex_14 : decode cX9_codeIndex 14 = .ok (.aload_n 0, 1) := by decide +kernel
theorem dX9_codeIndex_15 : decode cX9_codeIndex 15 = .ok (.invokevirtual 207, 3) := by decide +kernel
theorem dX9_codeIndex_18 : decode cX9_codeIndex 18 = .ok (.iload_n 1, 1) := by decide +kernel
theorem dX9_codeIndex_19 : decode cX9_codeIndex 19 = .ok (.iconst 0, 1) := by decide +kernel
theorem dX9_codeIndex_20 : decode cX9_codeIndex 20 = .ok (.aload_n 0, 1) := by decide +kernel
theorem dX9_codeIndex_21 : decode cX9_codeIndex 21 = .ok (.getfield 134, 3) := by decide +kernel
theorem dX9_codeIndex_24 : decode cX9_codeIndex 24 = .ok (.iconst 1, 1) := by decide +kernel
theorem dX9_codeIndex_25 : decode cX9_codeIndex 25 = .ok (.isub, 1) := by decide +kernel
theorem dX9_codeIndex_26 : decode cX9_codeIndex 26 = .ok (.invokestatic 77, 3) := by decide +kernel
theorem dX9_codeIndex_29 : decode cX9_codeIndex 29 = .ok (.ifCond .eq 12, 3) := by decide +kernel
theorem dX9_codeIndex_32 : decode cX9_codeIndex 32 = .ok (.aload_n 0, 1) := by decide +kernel
theorem dX9_codeIndex_33 : decode cX9_codeIndex 33 = .ok (.getfield 56, 3) := by decide +kernel
theorem dX9_codeIndex_36 : decode cX9_codeIndex 36 = .ok (.iload_n 1, 1) := by decide +kernel
theorem dX9_codeIndex_37 : decode cX9_codeIndex 37 = .ok (.iaload, 1) := by decide +kernel
theorem dX9_codeIndex_38 : decode cX9_codeIndex 38 = .ok (.goto 4, 3) := by decide +kernel
theorem dX9_codeIndex_41 : decode cX9_codeIndex 41 = .ok (.iconst (-1), 1) := by decide +kernel
theorem dX9_codeIndex_42 : decode cX9_codeIndex 42 = .ok (.ireturn, 1) := by decide +kernel
abbrev rm_X9_codeIndex : Room := { frames := 4, cells := 0, slots := 0, locals := 86 }
theorem w_X9_codeIndex_e {X : gX} {σ : sg} {p1 : Int32} {r0 : (Int32 × sg)} (C : gC X cX9_codeIndex 2 RX9 (some .int) rm_X9_codeIndex)  (hQ : gQ X (qI (XG X) r0.1 r0.2)) (hf : f_X9_codeIndex σ p1 = some r0) : G X 2 σ 0 [(0, .ref (Xd X 157)), (1, .int p1)] [] := by
  unfold f_X9_codeIndex at hf
  refine g_aload_n C 0 dX9_codeIndex_0 rfl ?_
  refine g_geti C 9 16 (by decide) sh_157 rfl vc_9 (by decide) inXX9 wfl_677 dX9_codeIndex_1 ?_
  refine g_if_ne C 10 hf dX9_codeIndex_4 (by decide) (fun hf => ?_) (fun hf => ?_)
  · refine g_bipush C (v := (-5)) dX9_codeIndex_7 rfl ?_
    have e0 : r0 = ((-5 : Int32), σ) := (Option.some.inj hf).symm
    exact g_iret C rfl hQ (by rw [e0]) rfl dX9_codeIndex_9
  · refine g_aload_n C 0 dX9_codeIndex_10 rfl ?_
    obtain ⟨s11, h1, hf⟩ := g_bind hf
    refine g_callVv C 0 [] (c_X9_findBlocks (Xl X) (gC_I C)  h1) ⟨wml_828, wim_830, wsp_18, win_10, wcd_831⟩ (by decide) sh_157 vc_9 rfl hd_X9_findBlocks ⟨rfl, rfl⟩ ⟨Nat.le_of_ble_eq_true rfl, Nat.le_of_ble_eq_true rfl⟩ rfl rfl (Nat.le_of_ble_eq_true rfl) dX9_codeIndex_11 ?_
    clear h1
    refine g_aload_n C 0 dX9_codeIndex_14 rfl ?_
    obtain ⟨s15, h1, hf⟩ := g_bind hf
    refine g_callVv C 0 [] (c_X9_findCode (Xl X) (gC_I C)  h1) ⟨wml_954, wim_956, wsp_32, win_10, wcd_957⟩ (by decide) sh_157 vc_9 rfl hd_X9_findCode ⟨rfl, rfl⟩ ⟨Nat.le_of_ble_eq_true rfl, Nat.le_of_ble_eq_true rfl⟩ rfl rfl (Nat.le_of_ble_eq_true rfl) dX9_codeIndex_15 ?_
    clear h1
    refine g_iload_n C 1 dX9_codeIndex_18 rfl ?_
    refine g_iconst C (v := 0) dX9_codeIndex_19 rfl ?_
    refine g_aload_n C 0 dX9_codeIndex_20 rfl ?_
    refine g_geti C 9 7 (by decide) sh_157 rfl vc_9 (by decide) inXX9 wfl_668 dX9_codeIndex_21 ?_
    refine g_iconst C (v := 1) dX9_codeIndex_24 rfl ?_
    refine g_isub C dX9_codeIndex_25 ?_
    obtain ⟨v26, h1, hf⟩ := g_bind hf
    refine g_callSi C 3 [.int p1, .int (0 : Int32), .int ((s15 157 7) - (1 : Int32))] (c_X9_isBetween (Xl X) (gC_I C)  h1) ⟨wml_771, wst_772, win_10, wcd_773⟩ hd_X9_isBetween ⟨rfl, rfl⟩ ⟨Nat.le_of_ble_eq_true rfl, Nat.le_of_ble_eq_true rfl⟩ rfl rfl (Nat.le_of_ble_eq_true rfl) dX9_codeIndex_26 ?_
    clear h1
    refine g_if_eq C 41 hf dX9_codeIndex_29 (by decide) (fun hf => ?_) (fun hf => ?_)
    · refine g_iconst C (v := (-1)) dX9_codeIndex_41 rfl ?_
      have e0 : r0 = ((-1 : Int32), s15) := (Option.some.inj hf).symm
      exact g_iret C rfl hQ (by rw [e0]) rfl dX9_codeIndex_42
    · refine g_aload_n C 0 dX9_codeIndex_32 rfl ?_
      refine g_getr C 9 24 (730) (by decide) sh_157 rfl vc_9 (by decide) inXX9 wfl_685 dX9_codeIndex_33 ?_
      refine g_iload_n C 1 dX9_codeIndex_36 rfl ?_
      obtain ⟨v37, h1, hf⟩ := g_bind hf
      refine g_iald C h1 dX9_codeIndex_37 ?_
      clear h1
      refine g_goto C 42 dX9_codeIndex_38 (by decide) ?_
      have e0 : r0 = (v37, s15) := (Option.some.inj hf).symm
      exact g_iret C rfl hQ (by rw [e0]) rfl dX9_codeIndex_42
theorem c_X9_codeIndex (l : Launch) {Gw : gW} (hI : g_I Gw) {σ : sg} {p1 : Int32} {r : (Int32 × sg)}  (hf : f_X9_codeIndex σ p1 = some r) : gM l Gw yX9_codeIndex cX9_codeIndex 2 (some .int) rm_X9_codeIndex [.ref (Gw.2.2 157), .int p1] σ (qI (Gw) r.1 r.2) := by
  refine g_met hI (by decide) (Nat.le_of_ble_eq_true rfl) (fun X h1 h2 C hQ => ?_)
  subst h1; subst h2
  exact w_X9_codeIndex_e C  hQ hf
theorem dX9_setRegister_0 : decode cX9_setRegister 0 = .ok (.iload_n 1, 1) := by decide +kernel
theorem dX9_setRegister_1 : decode cX9_setRegister 1 = .ok (.invokestatic 92, 3) := by decide +kernel
theorem dX9_setRegister_4 : decode cX9_setRegister 4 = .ok (.ifCond .ne 5, 3) := by decide +kernel
theorem dX9_setRegister_7 : decode cX9_setRegister 7 = .ok (.iconst (-1), 1) := by decide +kernel
theorem dX9_setRegister_8 : decode cX9_setRegister 8 = .ok (.ireturn, 1) := by decide +kernel
theorem dX9_setRegister_9 : decode cX9_setRegister 9 = .ok (.aload_n 0, 1) := by decide +kernel
theorem dX9_setRegister_10 : decode cX9_setRegister 10 = .ok (.getfield 59, 3) := by decide +kernel
theorem dX9_setRegister_13 : decode cX9_setRegister 13 = .ok (.iload_n 1, 1) := by decide +kernel
theorem dX9_setRegister_14 : decode cX9_setRegister 14 = .ok (.iload_n 2, 1) := by decide +kernel
theorem dX9_setRegister_15 : decode cX9_setRegister 15 = .ok (.iastore, 1) := by decide +kernel
theorem dX9_setRegister_16 : decode cX9_setRegister 16 = .ok (.iconst 1, 1) := by decide +kernel
theorem dX9_setRegister_17 : decode cX9_setRegister 17 = .ok (.ireturn, 1) := by decide +kernel
abbrev rm_X9_setRegister : Room := { frames := 2, cells := 0, slots := 0, locals := 42 }
theorem w_X9_setRegister_e {X : gX} {σ : sg} {p1 : Int32} {p2 : Int32} {r0 : (Int32 × sg)} (C : gC X cX9_setRegister 3 RX9 (some .int) rm_X9_setRegister)  (hQ : gQ X (qI (XG X) r0.1 r0.2)) (hf : f_X9_setRegister σ p1 p2 = some r0) : G X 3 σ 0 [(0, .ref (Xd X 157)), (1, .int p1), (2, .int p2)] [] := by
  unfold f_X9_setRegister at hf
  refine g_iload_n C 1 dX9_setRegister_0 rfl ?_
  obtain ⟨v1, h1, hf⟩ := g_bind hf
  refine g_callSi C 1 [.int p1] (c_X9_isRegister (Xl X) (gC_I C)  h1) ⟨wml_774, wst_775, win_10, wcd_776⟩ hd_X9_isRegister ⟨rfl, rfl⟩ ⟨Nat.le_of_ble_eq_true rfl, Nat.le_of_ble_eq_true rfl⟩ rfl rfl (Nat.le_of_ble_eq_true rfl) dX9_setRegister_1 ?_
  clear h1
  refine g_if_ne C 9 hf dX9_setRegister_4 (by decide) (fun hf => ?_) (fun hf => ?_)
  · refine g_iconst C (v := (-1)) dX9_setRegister_7 rfl ?_
    have e0 : r0 = ((-1 : Int32), σ) := (Option.some.inj hf).symm
    exact g_iret C rfl hQ (by rw [e0]) rfl dX9_setRegister_8
  · refine g_aload_n C 0 dX9_setRegister_9 rfl ?_
    refine g_getr C 9 26 (731) (by decide) sh_157 rfl vc_9 (by decide) inXX9 wfl_687 dX9_setRegister_10 ?_
    refine g_iload_n C 1 dX9_setRegister_13 rfl ?_
    refine g_iload_n C 2 dX9_setRegister_14 rfl ?_
    obtain ⟨s15, h1, hf⟩ := g_bind hf
    refine g_iast C h1 dX9_setRegister_15 ?_
    clear h1
    refine g_iconst C (v := 1) dX9_setRegister_16 rfl ?_
    have e0 : r0 = ((1 : Int32), s15) := (Option.some.inj hf).symm
    exact g_iret C rfl hQ (by rw [e0]) rfl dX9_setRegister_17
theorem c_X9_setRegister (l : Launch) {Gw : gW} (hI : g_I Gw) {σ : sg} {p1 : Int32} {p2 : Int32} {r : (Int32 × sg)}  (hf : f_X9_setRegister σ p1 p2 = some r) : gM l Gw yX9_setRegister cX9_setRegister 3 (some .int) rm_X9_setRegister [.ref (Gw.2.2 157), .int p1, .int p2] σ (qI (Gw) r.1 r.2) := by
  refine g_met hI (by decide) (Nat.le_of_ble_eq_true rfl) (fun X h1 h2 C hQ => ?_)
  subst h1; subst h2
  exact w_X9_setRegister_e C  hQ hf
theorem dX9_register_0 : decode cX9_register 0 = .ok (.iload_n 1, 1) := by decide +kernel
theorem dX9_register_1 : decode cX9_register 1 = .ok (.invokestatic 92, 3) := by decide +kernel
theorem dX9_register_4 : decode cX9_register 4 = .ok (.ifCond .eq 13, 3) := by decide +kernel
theorem dX9_register_7 : decode cX9_register 7 = .ok (.aload_n 0, 1) := by decide +kernel
theorem dX9_register_8 : decode cX9_register 8 = .ok (.getfield 59, 3) := by decide +kernel
theorem dX9_register_11 : decode cX9_register 11 = .ok (.iload_n 1, 1) := by decide +kernel
theorem dX9_register_12 : decode cX9_register 12 = .ok (.iaload, 1) := by decide +kernel
theorem dX9_register_13 : decode cX9_register 13 = .ok (.i2l, 1) := by decide +kernel
theorem dX9_register_14 : decode cX9_register 14 = .ok (.goto 6, 3) := by decide +kernel
theorem dX9_register_17 : decode cX9_register 17 = .ok (.ldc2_w 212, 3) := by decide +kernel
theorem dX9_register_20 : decode cX9_register 20 = .ok (.lreturn, 1) := by decide +kernel
abbrev rm_X9_register : Room := { frames := 2, cells := 0, slots := 0, locals := 42 }
theorem w_X9_register_e {X : gX} {σ : sg} {p1 : Int32} {r0 : Int64} (C : gC X cX9_register 2 RX9 (some .long) rm_X9_register)  (hQ : gQ X (qL (XG X) r0 σ)) (hf : f_X9_register σ p1 = some r0) : G X 2 σ 0 [(0, .ref (Xd X 157)), (1, .int p1)] [] := by
  unfold f_X9_register at hf
  refine g_iload_n C 1 dX9_register_0 rfl ?_
  obtain ⟨v1, h1, hf⟩ := g_bind hf
  refine g_callSi C 1 [.int p1] (c_X9_isRegister (Xl X) (gC_I C)  h1) ⟨wml_774, wst_775, win_10, wcd_776⟩ hd_X9_isRegister ⟨rfl, rfl⟩ ⟨Nat.le_of_ble_eq_true rfl, Nat.le_of_ble_eq_true rfl⟩ rfl rfl (Nat.le_of_ble_eq_true rfl) dX9_register_1 ?_
  clear h1
  refine g_if_eq C 17 hf dX9_register_4 (by decide) (fun hf => ?_) (fun hf => ?_)
  · refine g_ldc2 C wco_982 dX9_register_17 ?_
    have e0 : r0 = (-9223372036854775808 : Int64) := (Option.some.inj hf).symm
    exact g_lret C rfl hQ (by rw [e0]) dX9_register_20
  · refine g_aload_n C 0 dX9_register_7 rfl ?_
    refine g_getr C 9 26 (731) (by decide) sh_157 rfl vc_9 (by decide) inXX9 wfl_687 dX9_register_8 ?_
    refine g_iload_n C 1 dX9_register_11 rfl ?_
    obtain ⟨v12, h1, hf⟩ := g_bind hf
    refine g_iald C h1 dX9_register_12 ?_
    clear h1
    refine g_i2l C dX9_register_13 ?_
    refine g_goto C 20 dX9_register_14 (by decide) ?_
    have e0 : r0 = v12.toInt64 := (Option.some.inj hf).symm
    exact g_lret C rfl hQ (by rw [e0]) dX9_register_20
theorem c_X9_register (l : Launch) {Gw : gW} (hI : g_I Gw) {σ : sg} {p1 : Int32} {r : Int64}  (hf : f_X9_register σ p1 = some r) : gM l Gw yX9_register cX9_register 2 (some .long) rm_X9_register [.ref (Gw.2.2 157), .int p1] σ (qL (Gw) r σ) := by
  refine g_met hI (by decide) (Nat.le_of_ble_eq_true rfl) (fun X h1 h2 C hQ => ?_)
  subst h1; subst h2
  exact w_X9_register_e C  hQ hf
theorem dX9_setMemory_0 : decode cX9_setMemory 0 = .ok (.iload_n 1, 1) := by decide +kernel
theorem dX9_setMemory_1 : decode cX9_setMemory 1 = .ok (.iconst 0, 1) := by decide +kernel
theorem dX9_setMemory_2 : decode cX9_setMemory 2 = .ok (.bipush 15, 2) := by decide +kernel
theorem dX9_setMemory_4 : decode cX9_setMemory 4 = .ok (.invokestatic 77, 3) := by decide +kernel
theorem dX9_setMemory_7 : decode cX9_setMemory 7 = .ok (.ifCond .ne 5, 3) := by decide +kernel
theorem dX9_setMemory_10 : decode cX9_setMemory 10 = .ok (.iconst (-1), 1) := by decide +kernel
theorem dX9_setMemory_11 : decode cX9_setMemory 11 = .ok (.ireturn, 1) := by decide +kernel
theorem dX9_setMemory_12 : decode cX9_setMemory 12 = .ok (.aload_n 0, 1) := by decide +kernel
theorem dX9_setMemory_13 : decode cX9_setMemory 13 = .ok (.getfield 59, 3) := by decide +kernel
theorem dX9_setMemory_16 : decode cX9_setMemory 16 = .ok (.bipush 8, 2) := by decide +kernel
theorem dX9_setMemory_18 : decode cX9_setMemory 18 = .ok (.iload_n 1, 1) := by decide +kernel
theorem dX9_setMemory_19 : decode cX9_setMemory 19 = .ok (.iadd, 1) := by decide +kernel
theorem dX9_setMemory_20 : decode cX9_setMemory 20 = .ok (.iload_n 2, 1) := by decide +kernel
theorem dX9_setMemory_21 : decode cX9_setMemory 21 = .ok (.iastore, 1) := by decide +kernel
theorem dX9_setMemory_22 : decode cX9_setMemory 22 = .ok (.iconst 1, 1) := by decide +kernel
theorem dX9_setMemory_23 : decode cX9_setMemory 23 = .ok (.ireturn, 1) := by decide +kernel
abbrev rm_X9_setMemory : Room := { frames := 1, cells := 0, slots := 0, locals := 22 }
theorem w_X9_setMemory_e {X : gX} {σ : sg} {p1 : Int32} {p2 : Int32} {r0 : (Int32 × sg)} (C : gC X cX9_setMemory 3 RX9 (some .int) rm_X9_setMemory)  (hQ : gQ X (qI (XG X) r0.1 r0.2)) (hf : f_X9_setMemory σ p1 p2 = some r0) : G X 3 σ 0 [(0, .ref (Xd X 157)), (1, .int p1), (2, .int p2)] [] := by
  unfold f_X9_setMemory at hf
  refine g_iload_n C 1 dX9_setMemory_0 rfl ?_
  refine g_iconst C (v := 0) dX9_setMemory_1 rfl ?_
  refine g_bipush C (v := 15) dX9_setMemory_2 rfl ?_
  obtain ⟨v4, h1, hf⟩ := g_bind hf
  refine g_callSi C 3 [.int p1, .int (0 : Int32), .int (15 : Int32)] (c_X9_isBetween (Xl X) (gC_I C)  h1) ⟨wml_771, wst_772, win_10, wcd_773⟩ hd_X9_isBetween ⟨rfl, rfl⟩ ⟨Nat.le_of_ble_eq_true rfl, Nat.le_of_ble_eq_true rfl⟩ rfl rfl (Nat.le_of_ble_eq_true rfl) dX9_setMemory_4 ?_
  clear h1
  refine g_if_ne C 12 hf dX9_setMemory_7 (by decide) (fun hf => ?_) (fun hf => ?_)
  · refine g_iconst C (v := (-1)) dX9_setMemory_10 rfl ?_
    have e0 : r0 = ((-1 : Int32), σ) := (Option.some.inj hf).symm
    exact g_iret C rfl hQ (by rw [e0]) rfl dX9_setMemory_11
  · refine g_aload_n C 0 dX9_setMemory_12 rfl ?_
    refine g_getr C 9 26 (731) (by decide) sh_157 rfl vc_9 (by decide) inXX9 wfl_687 dX9_setMemory_13 ?_
    refine g_bipush C (v := 8) dX9_setMemory_16 rfl ?_
    refine g_iload_n C 1 dX9_setMemory_18 rfl ?_
    refine g_iadd C dX9_setMemory_19 ?_
    refine g_iload_n C 2 dX9_setMemory_20 rfl ?_
    obtain ⟨s21, h1, hf⟩ := g_bind hf
    refine g_iast C h1 dX9_setMemory_21 ?_
    clear h1
    refine g_iconst C (v := 1) dX9_setMemory_22 rfl ?_
    have e0 : r0 = ((1 : Int32), s21) := (Option.some.inj hf).symm
    exact g_iret C rfl hQ (by rw [e0]) rfl dX9_setMemory_23
theorem c_X9_setMemory (l : Launch) {Gw : gW} (hI : g_I Gw) {σ : sg} {p1 : Int32} {p2 : Int32} {r : (Int32 × sg)}  (hf : f_X9_setMemory σ p1 p2 = some r) : gM l Gw yX9_setMemory cX9_setMemory 3 (some .int) rm_X9_setMemory [.ref (Gw.2.2 157), .int p1, .int p2] σ (qI (Gw) r.1 r.2) := by
  refine g_met hI (by decide) (Nat.le_of_ble_eq_true rfl) (fun X h1 h2 C hQ => ?_)
  subst h1; subst h2
  exact w_X9_setMemory_e C  hQ hf
theorem dX9_memory_0 : decode cX9_memory 0 = .ok (.iload_n 1, 1) := by decide +kernel
theorem dX9_memory_1 : decode cX9_memory 1 = .ok (.iconst 0, 1) := by decide +kernel
theorem dX9_memory_2 : decode cX9_memory 2 = .ok (.bipush 15, 2) := by decide +kernel
theorem dX9_memory_4 : decode cX9_memory 4 = .ok (.invokestatic 77, 3) := by decide +kernel
theorem dX9_memory_7 : decode cX9_memory 7 = .ok (.ifCond .eq 16, 3) := by decide +kernel
theorem dX9_memory_10 : decode cX9_memory 10 = .ok (.aload_n 0, 1) := by decide +kernel
theorem dX9_memory_11 : decode cX9_memory 11 = .ok (.getfield 59, 3) := by decide +kernel
theorem dX9_memory_14 : decode cX9_memory 14 = .ok (.bipush 8, 2) := by decide +kernel
theorem dX9_memory_16 : decode cX9_memory 16 = .ok (.iload_n 1, 1) := by decide +kernel
theorem dX9_memory_17 : decode cX9_memory 17 = .ok (.iadd, 1) := by decide +kernel
theorem dX9_memory_18 : decode cX9_memory 18 = .ok (.iaload, 1) := by decide +kernel
theorem dX9_memory_19 : decode cX9_memory 19 = .ok (.i2l, 1) := by decide +kernel
theorem dX9_memory_20 : decode cX9_memory 20 = .ok (.goto 6, 3) := by decide +kernel
theorem dX9_memory_23 : decode cX9_memory 23 = .ok (.ldc2_w 212, 3) := by decide +kernel
theorem dX9_memory_26 : decode cX9_memory 26 = .ok (.lreturn, 1) := by decide +kernel
abbrev rm_X9_memory : Room := { frames := 1, cells := 0, slots := 0, locals := 22 }
theorem w_X9_memory_e {X : gX} {σ : sg} {p1 : Int32} {r0 : Int64} (C : gC X cX9_memory 2 RX9 (some .long) rm_X9_memory)  (hQ : gQ X (qL (XG X) r0 σ)) (hf : f_X9_memory σ p1 = some r0) : G X 2 σ 0 [(0, .ref (Xd X 157)), (1, .int p1)] [] := by
  unfold f_X9_memory at hf
  refine g_iload_n C 1 dX9_memory_0 rfl ?_
  refine g_iconst C (v := 0) dX9_memory_1 rfl ?_
  refine g_bipush C (v := 15) dX9_memory_2 rfl ?_
  obtain ⟨v4, h1, hf⟩ := g_bind hf
  refine g_callSi C 3 [.int p1, .int (0 : Int32), .int (15 : Int32)] (c_X9_isBetween (Xl X) (gC_I C)  h1) ⟨wml_771, wst_772, win_10, wcd_773⟩ hd_X9_isBetween ⟨rfl, rfl⟩ ⟨Nat.le_of_ble_eq_true rfl, Nat.le_of_ble_eq_true rfl⟩ rfl rfl (Nat.le_of_ble_eq_true rfl) dX9_memory_4 ?_
  clear h1
  refine g_if_eq C 23 hf dX9_memory_7 (by decide) (fun hf => ?_) (fun hf => ?_)
  · refine g_ldc2 C wco_982 dX9_memory_23 ?_
    have e0 : r0 = (-9223372036854775808 : Int64) := (Option.some.inj hf).symm
    exact g_lret C rfl hQ (by rw [e0]) dX9_memory_26
  · refine g_aload_n C 0 dX9_memory_10 rfl ?_
    refine g_getr C 9 26 (731) (by decide) sh_157 rfl vc_9 (by decide) inXX9 wfl_687 dX9_memory_11 ?_
    refine g_bipush C (v := 8) dX9_memory_14 rfl ?_
    refine g_iload_n C 1 dX9_memory_16 rfl ?_
    refine g_iadd C dX9_memory_17 ?_
    obtain ⟨v18, h1, hf⟩ := g_bind hf
    refine g_iald C h1 dX9_memory_18 ?_
    clear h1
    refine g_i2l C dX9_memory_19 ?_
    refine g_goto C 26 dX9_memory_20 (by decide) ?_
    have e0 : r0 = v18.toInt64 := (Option.some.inj hf).symm
    exact g_lret C rfl hQ (by rw [e0]) dX9_memory_26
theorem c_X9_memory (l : Launch) {Gw : gW} (hI : g_I Gw) {σ : sg} {p1 : Int32} {r : Int64}  (hf : f_X9_memory σ p1 = some r) : gM l Gw yX9_memory cX9_memory 2 (some .long) rm_X9_memory [.ref (Gw.2.2 157), .int p1] σ (qL (Gw) r σ) := by
  refine g_met hI (by decide) (Nat.le_of_ble_eq_true rfl) (fun X h1 h2 C hQ => ?_)
  subst h1; subst h2
  exact w_X9_memory_e C  hQ hf
theorem dX9_placeWritten_0 : decode cX9_placeWritten 0 = .ok (.aload_n 0, 1) := by decide +kernel
theorem dX9_placeWritten_1 : decode cX9_placeWritten 1 = .ok (.iload_n 1, 1) := by decide +kernel
theorem dX9_placeWritten_2 : decode cX9_placeWritten 2 = .ok (.invokevirtual 128, 3) := by decide +kernel
theorem dX9_placeWritten_5 : decode cX9_placeWritten 5 = .ok (.ifCond .eq 5, 3) := by decide +kernel
theorem dX9_placeWritten_8 : decode cX9_placeWritten 8 = .ok (.iconst (-1), 1) := by decide +kernel
theorem dX9_placeWritten_9 : decode cX9_placeWritten 9 = .ok (.ireturn, 1) := by decide +kernel
theorem dX9_placeWritten_10 : decode cX9_placeWritten 10 = .ok (.aload_n 0, 1) := by decide +kernel
theorem dX9_placeWritten_11 : decode cX9_placeWritten 11 = .ok (.iload_n 1, 1) := by decide +kernel
theorem dX9_placeWritten_12 : decode cX9_placeWritten 12 = .ok (.invokevirtual 114, 3) := by decide +kernel
theorem dX9_placeWritten_15 : decode cX9_placeWritten 15 = .ok (.bipush 9, 2) := by decide +kernel
theorem dX9_placeWritten_17 : decode cX9_placeWritten 17 = .ok (.if_icmp .ne 25, 3) := by decide +kernel
theorem dX9_placeWritten_20 : decode cX9_placeWritten 20 = .ok (.bipush 8, 2) := by decide +kernel
theorem dX9_placeWritten_22 : decode cX9_placeWritten 22 = .ok (.aload_n 0, 1) := by decide +kernel
theorem dX9_placeWritten_23 : decode cX9_placeWritten 23 = .ok (.getfield 59, 3) := by decide +kernel
theorem dX9_placeWritten_26 : decode cX9_placeWritten 26 = .ok (.aload_n 0, 1) := by decide +kernel
theorem dX9_placeWritten_27 : decode cX9_placeWritten 27 = .ok (.getfield 11, 3) := by decide +kernel
theorem dX9_placeWritten_30 : decode cX9_placeWritten 30 = .ok (.iload_n 1, 1) := by decide +kernel
theorem dX9_placeWritten_31 : decode cX9_placeWritten 31 = .ok (.aaload, 1) := by decide +kernel
theorem dX9_placeWritten_32 : decode cX9_placeWritten 32 = .ok (.iconst 2, 1) := by decide +kernel
theorem dX9_placeWritten_33 : decode cX9_placeWritten 33 = .ok (.iaload, 1) := by decide +kernel
theorem dX9_placeWritten_34 : decode cX9_placeWritten 34 = .ok (.iaload, 1) := by decide +kernel
theorem dX9_placeWritten_35 : decode cX9_placeWritten 35 = .ok (.bipush 15, 2) := by decide +kernel
theorem dX9_placeWritten_37 : decode cX9_placeWritten 37 = .ok (.iand, 1) := by decide +kernel
theorem dX9_placeWritten_38 : decode cX9_placeWritten 38 = .ok (.iadd, 1) := by decide +kernel
theorem dX9_placeWritten_39 : decode cX9_placeWritten 39 = .ok (.goto 11, 3) := by decide +kernel
theorem dX9_placeWritten_42 : decode cX9_placeWritten 42 = .ok (.aload_n 0, 1) := by decide +kernel
theorem dX9_placeWritten_43 : decode cX9_placeWritten 43 = .ok (.getfield 11, 3) := by decide +kernel
theorem dX9_placeWritten_46 : decode cX9_placeWritten 46 = .ok (.iload_n 1, 1) := by decide +kernel
theorem dX9_placeWritten_47 : decode cX9_placeWritten 47 = .ok (.aaload, 1) := by decide +kernel
theorem dX9_placeWritten_48 : decode cX9_placeWritten 48 = .ok (.iconst 1, 1) := by decide +kernel
theorem dX9_placeWritten_49 : decode cX9_placeWritten 49 = .ok (.iaload, 1) := by decide +kernel
theorem dX9_placeWritten_50 : decode cX9_placeWritten 50 = .ok (.ireturn, 1) := by decide +kernel
abbrev rm_X9_placeWritten : Room := { frames := 2, cells := 0, slots := 0, locals := 42 }
theorem w_X9_placeWritten_e {X : gX} {σ : sg} {p1 : Int32} {r0 : Int32} (C : gC X cX9_placeWritten 2 RX9 (some .int) rm_X9_placeWritten)  (hQ : gQ X (qI (XG X) r0 σ)) (hf : f_X9_placeWritten σ p1 = some r0) : G X 2 σ 0 [(0, .ref (Xd X 157)), (1, .int p1)] [] := by
  unfold f_X9_placeWritten at hf
  refine g_aload_n C 0 dX9_placeWritten_0 rfl ?_
  refine g_iload_n C 1 dX9_placeWritten_1 rfl ?_
  obtain ⟨v2, h1, hf⟩ := g_bind hf
  refine g_callVi C 1 [.int p1] (c_X9_isExit (Xl X) (gC_I C)  h1) ⟨wml_836, wim_838, wsp_20, win_10, wcd_839⟩ (by decide) sh_157 vc_9 rfl hd_X9_isExit ⟨rfl, rfl⟩ ⟨Nat.le_of_ble_eq_true rfl, Nat.le_of_ble_eq_true rfl⟩ rfl rfl (Nat.le_of_ble_eq_true rfl) dX9_placeWritten_2 ?_
  clear h1
  refine g_if_eq C 10 hf dX9_placeWritten_5 (by decide) (fun hf => ?_) (fun hf => ?_)
  · refine g_aload_n C 0 dX9_placeWritten_10 rfl ?_
    refine g_iload_n C 1 dX9_placeWritten_11 rfl ?_
    obtain ⟨v12, h1, hf⟩ := g_bind hf
    refine g_callVi C 1 [.int p1] (c_X9_operation (Xl X) (gC_I C)  h1) ⟨wml_824, wim_826, wsp_17, win_10, wcd_827⟩ (by decide) sh_157 vc_9 rfl hd_X9_operation ⟨rfl, rfl⟩ ⟨Nat.le_of_ble_eq_true rfl, Nat.le_of_ble_eq_true rfl⟩ rfl rfl (Nat.le_of_ble_eq_true rfl) dX9_placeWritten_12 ?_
    clear h1
    refine g_bipush C (v := 9) dX9_placeWritten_15 rfl ?_
    refine g_icmp_ne C 42 hf dX9_placeWritten_17 (by decide) (fun hf => ?_) (fun hf => ?_)
    · refine g_bipush C (v := 8) dX9_placeWritten_20 rfl ?_
      refine g_aload_n C 0 dX9_placeWritten_22 rfl ?_
      refine g_getr C 9 26 (731) (by decide) sh_157 rfl vc_9 (by decide) inXX9 wfl_687 dX9_placeWritten_23 ?_
      refine g_aload_n C 0 dX9_placeWritten_26 rfl ?_
      refine g_getr C 9 1 (158) (by decide) sh_157 rfl vc_9 (by decide) inXX9 wfl_662 dX9_placeWritten_27 ?_
      refine g_iload_n C 1 dX9_placeWritten_30 rfl ?_
      obtain ⟨q31, h1, hf⟩ := g_bind hf
      refine g_aald C h1 dX9_placeWritten_31 ?_
      clear h1
      refine g_iconst C (v := 2) dX9_placeWritten_32 rfl ?_
      obtain ⟨v33, h1, hf⟩ := g_bind hf
      refine g_iald C h1 dX9_placeWritten_33 ?_
      clear h1
      obtain ⟨v34, h1, hf⟩ := g_bind hf
      refine g_iald C h1 dX9_placeWritten_34 ?_
      clear h1
      refine g_bipush C (v := 15) dX9_placeWritten_35 rfl ?_
      refine g_iand C dX9_placeWritten_37 ?_
      refine g_iadd C dX9_placeWritten_38 ?_
      refine g_goto C 50 dX9_placeWritten_39 (by decide) ?_
      have e0 : r0 = (8 : Int32) + (v34 &&& (15 : Int32)) := (Option.some.inj hf).symm
      exact g_iret C rfl hQ (by rw [e0]) rfl dX9_placeWritten_50
    · refine g_aload_n C 0 dX9_placeWritten_42 rfl ?_
      refine g_getr C 9 1 (158) (by decide) sh_157 rfl vc_9 (by decide) inXX9 wfl_662 dX9_placeWritten_43 ?_
      refine g_iload_n C 1 dX9_placeWritten_46 rfl ?_
      obtain ⟨q47, h1, hf⟩ := g_bind hf
      refine g_aald C h1 dX9_placeWritten_47 ?_
      clear h1
      refine g_iconst C (v := 1) dX9_placeWritten_48 rfl ?_
      obtain ⟨v49, h1, hf⟩ := g_bind hf
      refine g_iald C h1 dX9_placeWritten_49 ?_
      clear h1
      have e0 : r0 = v49 := (Option.some.inj hf).symm
      exact g_iret C rfl hQ (by rw [e0]) rfl dX9_placeWritten_50
  · refine g_iconst C (v := (-1)) dX9_placeWritten_8 rfl ?_
    have e0 : r0 = (-1 : Int32) := (Option.some.inj hf).symm
    exact g_iret C rfl hQ (by rw [e0]) rfl dX9_placeWritten_9
theorem c_X9_placeWritten (l : Launch) {Gw : gW} (hI : g_I Gw) {σ : sg} {p1 : Int32} {r : Int32}  (hf : f_X9_placeWritten σ p1 = some r) : gM l Gw yX9_placeWritten cX9_placeWritten 2 (some .int) rm_X9_placeWritten [.ref (Gw.2.2 157), .int p1] σ (qI (Gw) r σ) := by
  refine g_met hI (by decide) (Nat.le_of_ble_eq_true rfl) (fun X h1 h2 C hQ => ?_)
  subst h1; subst h2
  exact w_X9_placeWritten_e C  hQ hf
theorem dX9_valueWritten_0 : decode cX9_valueWritten 0 = .ok (.aload_n 0, 1) := by decide +kernel
theorem dX9_valueWritten_1 : decode cX9_valueWritten 1 = .ok (.getfield 11, 3) := by decide +kernel
theorem dX9_valueWritten_4 : decode cX9_valueWritten 4 = .ok (.iload_n 1, 1) := by decide +kernel
theorem dX9_valueWritten_5 : decode cX9_valueWritten 5 = .ok (.aaload, 1) := by decide +kernel
theorem dX9_valueWritten_6 : decode cX9_valueWritten 6 = .ok (.iconst 2, 1) := by decide +kernel
theorem dX9_valueWritten_7 : decode cX9_valueWritten 7 = .ok (.iaload, 1) := by decide +kernel
theorem dX9_valueWritten_8 : decode cX9_valueWritten 8 = .ok (.istore_n 2, 1) := by decide +kernel
theorem dX9_valueWritten_9 : decode cX9_valueWritten 9 = .ok (.aload_n 0, 1) := by decide +kernel
theorem dX9_valueWritten_10 : decode cX9_valueWritten 10 = .ok (.iload_n 1, 1) := by decide +kernel
theorem dX9_valueWritten_11 : decode cX9_valueWritten 11 = .ok (.invokevirtual 114, 3) := by decide +kernel
theorem dX9_valueWritten_14 : decode cX9_valueWritten 14 = .ok (.ifCond .le 20, 3) := by decide +kernel
theorem dX9_valueWritten_17 : decode cX9_valueWritten 17 = .ok (.aload_n 0, 1) := by decide +kernel
theorem dX9_valueWritten_18 : decode cX9_valueWritten 18 = .ok (.iload_n 1, 1) := by decide +kernel
theorem dX9_valueWritten_19 : decode cX9_valueWritten 19 = .ok (.invokevirtual 128, 3) := by decide +kernel
theorem dX9_valueWritten_22 : decode cX9_valueWritten 22 = .ok (.ifCond .ne 12, 3) := by decide +kernel
theorem dX9_valueWritten_25 : decode cX9_valueWritten 25 = .ok (.aload_n 0, 1) := by decide +kernel
theorem dX9_valueWritten_26 : decode cX9_valueWritten 26 = .ok (.getfield 59, 3) := by decide +kernel
theorem dX9_valueWritten_29 : decode cX9_valueWritten 29 = .ok (.iload_n 2, 1) := by decide +kernel
theorem dX9_valueWritten_30 : decode cX9_valueWritten 30 = .ok (.iaload, 1) := by decide +kernel
theorem dX9_valueWritten_31 : decode cX9_valueWritten 31 = .ok (.goto 4, 3) := by decide +kernel
theorem dX9_valueWritten_34 : decode cX9_valueWritten 34 = .ok (.iconst 0, 1) := by decide +kernel
theorem dX9_valueWritten_35 : decode cX9_valueWritten 35 = .ok (.istore_n 3, 1) := by decide +kernel
theorem dX9_valueWritten_36 : decode cX9_valueWritten 36 = .ok (.aload_n 0, 1) := by decide +kernel
theorem dX9_valueWritten_37 : decode cX9_valueWritten 37 = .ok (.iload_n 1, 1) := by decide +kernel
theorem dX9_valueWritten_38 : decode cX9_valueWritten 38 = .ok (.invokevirtual 128, 3) := by decide +kernel
theorem dX9_valueWritten_41 : decode cX9_valueWritten 41 = .ok (.ifCond .eq 7, 3) := by decide +kernel
theorem dX9_valueWritten_44 : decode cX9_valueWritten 44 = .ok (.iconst 0, 1) := by decide +kernel
theorem dX9_valueWritten_45 : decode cX9_valueWritten 45 = .ok (.goto 16, 3) := by decide +kernel
theorem dX9_valueWritten_48 : decode cX9_valueWritten 48 = .ok (.aload_n 0, 1) := by decide +kernel
theorem dX9_valueWritten_49 : decode cX9_valueWritten 49 = .ok (.getfield 59, 3) := by decide +kernel
theorem dX9_valueWritten_52 : decode cX9_valueWritten 52 = .ok (.aload_n 0, 1) := by decide +kernel
theorem dX9_valueWritten_53 : decode cX9_valueWritten 53 = .ok (.getfield 11, 3) := by decide +kernel
theorem dX9_valueWritten_56 : decode cX9_valueWritten 56 = .ok (.iload_n 1, 1) := by decide +kernel
theorem dX9_valueWritten_57 : decode cX9_valueWritten 57 = .ok (.aaload, 1) := by decide +kernel
theorem dX9_valueWritten_58 : decode cX9_valueWritten 58 = .ok (.iconst 3, 1) := by decide +kernel
theorem dX9_valueWritten_59 : decode cX9_valueWritten 59 = .ok (.iaload, 1) := by decide +kernel
theorem dX9_valueWritten_60 : decode cX9_valueWritten 60 = .ok (.iaload, 1) := by decide +kernel
theorem dX9_valueWritten_61 : decode cX9_valueWritten 61 = .ok (.istore 4, 2) := by decide +kernel
theorem dX9_valueWritten_63 : decode cX9_valueWritten 63 = .ok (.aload_n 0, 1) := by decide +kernel
theorem dX9_valueWritten_64 : decode cX9_valueWritten 64 = .ok (.iload_n 1, 1) := by decide +kernel
theorem dX9_valueWritten_65 : decode cX9_valueWritten 65 = .ok (.invokevirtual 114, 3) := by decide +kernel
theorem dX9_valueWritten_68 : decode cX9_valueWritten 68 = .ok (.tableswitch 112 0 8 #[52, 54, 59, 64, 69, 74, 82, 94, 99], 52) := by decide +kernel
theorem dX9_valueWritten_120 : decode cX9_valueWritten 120 = .ok (.iload_n 2, 1) := by decide +kernel
theorem dX9_valueWritten_121 : decode cX9_valueWritten 121 = .ok (.ireturn, 1) := by decide +kernel
theorem dX9_valueWritten_122 : decode cX9_valueWritten 122 = .ok (.iload_n 3, 1) := by decide +kernel
theorem dX9_valueWritten_123 : decode cX9_valueWritten 123 = .ok (.iload 4, 2) := by decide +kernel
theorem dX9_valueWritten_125 : decode cX9_valueWritten 125 = .ok (.iadd, 1) := by decide +kernel
theorem dX9_valueWritten_126 : decode cX9_valueWritten 126 = .ok (.ireturn, 1) := by decide +kernel
theorem dX9_valueWritten_127 : decode cX9_valueWritten 127 = .ok (.iload_n 3, 1) := by decide +kernel
theorem dX9_valueWritten_128 : decode cX9_valueWritten 128 = .ok (.iload 4, 2) := by decide +kernel
theorem dX9_valueWritten_130 : decode cX9_valueWritten 130 = .ok (.isub, 1) := by decide +kernel
theorem dX9_valueWritten_131 : decode cX9_valueWritten 131 = .ok (.ireturn, 1) := by decide +kernel
theorem dX9_valueWritten_132 : decode cX9_valueWritten 132 = .ok (.iload_n 3, 1) := by decide +kernel
theorem dX9_valueWritten_133 : decode cX9_valueWritten 133 = .ok (.iload 4, 2) := by decide +kernel
theorem dX9_valueWritten_135 : decode cX9_valueWritten 135 = .ok (.iand, 1) := by decide +kernel
theorem dX9_valueWritten_136 : decode cX9_valueWritten 136 = .ok (.ireturn, 1) := by decide +kernel
theorem dX9_valueWritten_137 : decode cX9_valueWritten 137 = .ok (.iload_n 3, 1) := by decide +kernel
theorem dX9_valueWritten_138 : decode cX9_valueWritten 138 = .ok (.iload 4, 2) := by decide +kernel
theorem dX9_valueWritten_140 : decode cX9_valueWritten 140 = .ok (.ixor, 1) := by decide +kernel
theorem dX9_valueWritten_141 : decode cX9_valueWritten 141 = .ok (.ireturn, 1) := by decide +kernel
theorem dX9_valueWritten_142 : decode cX9_valueWritten 142 = .ok (.iload_n 3, 1) := by decide +kernel
theorem dX9_valueWritten_143 : decode cX9_valueWritten 143 = .ok (.iload 4, 2) := by decide +kernel
theorem dX9_valueWritten_145 : decode cX9_valueWritten 145 = .ok (.bipush 31, 2) := by decide +kernel
theorem dX9_valueWritten_147 : decode cX9_valueWritten 147 = .ok (.iand, 1) := by decide +kernel
theorem dX9_valueWritten_148 : decode cX9_valueWritten 148 = .ok (.ishr, 1) := by decide +kernel
theorem dX9_valueWritten_149 : decode cX9_valueWritten 149 = .ok (.ireturn, 1) := by decide +kernel
theorem dX9_valueWritten_150 : decode cX9_valueWritten 150 = .ok (.iload_n 3, 1) := by decide +kernel
theorem dX9_valueWritten_151 : decode cX9_valueWritten 151 = .ok (.iload 4, 2) := by decide +kernel
theorem dX9_valueWritten_153 : decode cX9_valueWritten 153 = .ok (.if_icmp .ge 7, 3) := by decide +kernel
theorem dX9_valueWritten_156 : decode cX9_valueWritten 156 = .ok (.iconst 1, 1) := by decide +kernel
theorem dX9_valueWritten_157 : decode cX9_valueWritten 157 = .ok (.goto 4, 3) := by decide +kernel
theorem dX9_valueWritten_160 : decode cX9_valueWritten 160 = .ok (.iconst 0, 1) := by decide +kernel
theorem dX9_valueWritten_161 : decode cX9_valueWritten 161 = .ok (.ireturn, 1) := by decide +kernel
theorem dX9_valueWritten_162 : decode cX9_valueWritten 162 = .ok (.iload_n 3, 1) := by decide +kernel
theorem dX9_valueWritten_163 : decode cX9_valueWritten 163 = .ok (.iload 4, 2) := by decide +kernel
theorem dX9_valueWritten_165 : decode cX9_valueWritten 165 = .ok (.imul, 1) := by decide +kernel
theorem dX9_valueWritten_166 : decode cX9_valueWritten 166 = .ok (.ireturn, 1) := by decide +kernel
theorem dX9_valueWritten_167 : decode cX9_valueWritten 167 = .ok (.aload_n 0, 1) := by decide +kernel
theorem dX9_valueWritten_168 : decode cX9_valueWritten 168 = .ok (.getfield 59, 3) := by decide +kernel
theorem dX9_valueWritten_171 : decode cX9_valueWritten 171 = .ok (.bipush 8, 2) := by decide +kernel
theorem dX9_valueWritten_173 : decode cX9_valueWritten 173 = .ok (.iload_n 3, 1) := by decide +kernel
theorem dX9_valueWritten_174 : decode cX9_valueWritten 174 = .ok (.bipush 15, 2) := by decide +kernel
theorem dX9_valueWritten_176 : decode cX9_valueWritten 176 = .ok (.iand, 1) := by decide +kernel
theorem dX9_valueWritten_177 : decode cX9_valueWritten 177 = .ok (.iadd, 1) := by decide +kernel
theorem dX9_valueWritten_178 : decode cX9_valueWritten 178 = .ok (.iaload, 1) := by decide +kernel
theorem dX9_valueWritten_179 : decode cX9_valueWritten 179 = .ok (.ireturn, 1) := by decide +kernel
theorem dX9_valueWritten_180 : decode cX9_valueWritten 180 = .ok (.iload 4, 2) := by decide +kernel
theorem dX9_valueWritten_182 : decode cX9_valueWritten 182 = .ok (.ireturn, 1) := by decide +kernel
abbrev rm_X9_valueWritten : Room := { frames := 2, cells := 0, slots := 0, locals := 42 }
theorem w_X9_valueWritten_61 {X : gX} {σ : sg} {p1 : Int32} {x2 : Int32} {x3 : Int32} {t0 : Int32} {r0 : Int32} (C : gC X cX9_valueWritten 5 RX9 (some .int) rm_X9_valueWritten)  (hQ : gQ X (qI (XG X) r0 σ))  (hf : J_X9_valueWritten_61 σ p1 x2 x3 t0 = some r0) : G X 5 σ 61 [(0, .ref (Xd X 157)), (1, .int p1), (2, .int x2), (3, .int x3)] [.int t0] := by
  unfold J_X9_valueWritten_61 at hf
  refine g_istore C (lv' := [(4, .int t0), (0, .ref (Xd X 157)), (1, .int p1), (2, .int x2), (3, .int x3)]) dX9_valueWritten_61 (by decide) rfl ?_
  refine g_aload_n C 1 dX9_valueWritten_63 rfl ?_
  refine g_iload_n C 2 dX9_valueWritten_64 rfl ?_
  obtain ⟨v65, h1, hf⟩ := g_bind hf
  refine g_callVi C 1 [.int p1] (c_X9_operation (Xl X) (gC_I C)  h1) ⟨wml_824, wim_826, wsp_17, win_10, wcd_827⟩ (by decide) sh_157 vc_9 rfl hd_X9_operation ⟨rfl, rfl⟩ ⟨Nat.le_of_ble_eq_true rfl, Nat.le_of_ble_eq_true rfl⟩ rfl rfl (Nat.le_of_ble_eq_true rfl) dX9_valueWritten_65 ?_
  clear h1
  refine g_if hf (fun hf e1 => ?_) (fun hf n0 => ?_)
  · refine g_tcase C (0 : Int32) 120 dX9_valueWritten_68 e1 (by decide) (by decide) rfl (by decide) ?_
    refine g_iload_n C 3 dX9_valueWritten_120 rfl ?_
    have e0 : r0 = x2 := (Option.some.inj hf).symm
    exact g_iret C rfl hQ (by rw [e0]) rfl dX9_valueWritten_121
  · refine g_if hf (fun hf e1 => ?_) (fun hf n1 => ?_)
    · refine g_tcase C (1 : Int32) 122 dX9_valueWritten_68 e1 (by decide) (by decide) rfl (by decide) ?_
      refine g_iload_n C 4 dX9_valueWritten_122 rfl ?_
      refine g_iload C 0 dX9_valueWritten_123 rfl ?_
      refine g_iadd C dX9_valueWritten_125 ?_
      have e0 : r0 = x3 + t0 := (Option.some.inj hf).symm
      exact g_iret C rfl hQ (by rw [e0]) rfl dX9_valueWritten_126
    · refine g_if hf (fun hf e1 => ?_) (fun hf n2 => ?_)
      · refine g_tcase C (2 : Int32) 127 dX9_valueWritten_68 e1 (by decide) (by decide) rfl (by decide) ?_
        refine g_iload_n C 4 dX9_valueWritten_127 rfl ?_
        refine g_iload C 0 dX9_valueWritten_128 rfl ?_
        refine g_isub C dX9_valueWritten_130 ?_
        have e0 : r0 = x3 - t0 := (Option.some.inj hf).symm
        exact g_iret C rfl hQ (by rw [e0]) rfl dX9_valueWritten_131
      · refine g_if hf (fun hf e1 => ?_) (fun hf n3 => ?_)
        · refine g_tcase C (3 : Int32) 132 dX9_valueWritten_68 e1 (by decide) (by decide) rfl (by decide) ?_
          refine g_iload_n C 4 dX9_valueWritten_132 rfl ?_
          refine g_iload C 0 dX9_valueWritten_133 rfl ?_
          refine g_iand C dX9_valueWritten_135 ?_
          have e0 : r0 = x3 &&& t0 := (Option.some.inj hf).symm
          exact g_iret C rfl hQ (by rw [e0]) rfl dX9_valueWritten_136
        · refine g_if hf (fun hf e1 => ?_) (fun hf n4 => ?_)
          · refine g_tcase C (4 : Int32) 137 dX9_valueWritten_68 e1 (by decide) (by decide) rfl (by decide) ?_
            refine g_iload_n C 4 dX9_valueWritten_137 rfl ?_
            refine g_iload C 0 dX9_valueWritten_138 rfl ?_
            refine g_ixor C dX9_valueWritten_140 ?_
            have e0 : r0 = x3 ^^^ t0 := (Option.some.inj hf).symm
            exact g_iret C rfl hQ (by rw [e0]) rfl dX9_valueWritten_141
          · refine g_if hf (fun hf e1 => ?_) (fun hf n5 => ?_)
            · refine g_tcase C (5 : Int32) 142 dX9_valueWritten_68 e1 (by decide) (by decide) rfl (by decide) ?_
              refine g_iload_n C 4 dX9_valueWritten_142 rfl ?_
              refine g_iload C 0 dX9_valueWritten_143 rfl ?_
              refine g_bipush C (v := 31) dX9_valueWritten_145 rfl ?_
              refine g_iand C dX9_valueWritten_147 ?_
              refine g_ishr C dX9_valueWritten_148 ?_
              have e0 : r0 = x3 >>> ((t0 &&& (31 : Int32)) &&& 31) := (Option.some.inj hf).symm
              exact g_iret C rfl hQ (by rw [e0]) rfl dX9_valueWritten_149
            · refine g_if hf (fun hf e1 => ?_) (fun hf n6 => ?_)
              · refine g_tcase C (6 : Int32) 150 dX9_valueWritten_68 e1 (by decide) (by decide) rfl (by decide) ?_
                refine g_iload_n C 4 dX9_valueWritten_150 rfl ?_
                refine g_iload C 0 dX9_valueWritten_151 rfl ?_
                refine g_icmp_ge C 160 hf dX9_valueWritten_153 (by decide) (fun hf => ?_) (fun hf => ?_)
                · refine g_iconst C (v := 0) dX9_valueWritten_160 rfl ?_
                  have e0 : r0 = (0 : Int32) := (Option.some.inj hf).symm
                  exact g_iret C rfl hQ (by rw [e0]) rfl dX9_valueWritten_161
                · refine g_iconst C (v := 1) dX9_valueWritten_156 rfl ?_
                  refine g_goto C 161 dX9_valueWritten_157 (by decide) ?_
                  have e0 : r0 = (1 : Int32) := (Option.some.inj hf).symm
                  exact g_iret C rfl hQ (by rw [e0]) rfl dX9_valueWritten_161
              · refine g_if hf (fun hf e1 => ?_) (fun hf n7 => ?_)
                · refine g_tcase C (7 : Int32) 162 dX9_valueWritten_68 e1 (by decide) (by decide) rfl (by decide) ?_
                  refine g_iload_n C 4 dX9_valueWritten_162 rfl ?_
                  refine g_iload C 0 dX9_valueWritten_163 rfl ?_
                  refine g_imul C dX9_valueWritten_165 ?_
                  have e0 : r0 = x3 * t0 := (Option.some.inj hf).symm
                  exact g_iret C rfl hQ (by rw [e0]) rfl dX9_valueWritten_166
                · refine g_if hf (fun hf e1 => ?_) (fun hf n8 => ?_)
                  · refine g_tcase C (8 : Int32) 167 dX9_valueWritten_68 e1 (by decide) (by decide) rfl (by decide) ?_
                    refine g_aload_n C 1 dX9_valueWritten_167 rfl ?_
                    refine g_getr C 9 26 (731) (by decide) sh_157 rfl vc_9 (by decide) inXX9 wfl_687 dX9_valueWritten_168 ?_
                    refine g_bipush C (v := 8) dX9_valueWritten_171 rfl ?_
                    refine g_iload_n C 4 dX9_valueWritten_173 rfl ?_
                    refine g_bipush C (v := 15) dX9_valueWritten_174 rfl ?_
                    refine g_iand C dX9_valueWritten_176 ?_
                    refine g_iadd C dX9_valueWritten_177 ?_
                    obtain ⟨v178, h1, hf⟩ := g_bind hf
                    refine g_iald C h1 dX9_valueWritten_178 ?_
                    clear h1
                    have e0 : r0 = v178 := (Option.some.inj hf).symm
                    exact g_iret C rfl hQ (by rw [e0]) rfl dX9_valueWritten_179
                  · refine g_tout C 180 dX9_valueWritten_68 (by have := lv_neT (a := 0) n0 rfl; have := lv_neT (a := 1) n1 rfl; have := lv_neT (a := 2) n2 rfl; have := lv_neT (a := 3) n3 rfl; have := lv_neT (a := 4) n4 rfl; have := lv_neT (a := 5) n5 rfl; have := lv_neT (a := 6) n6 rfl; have := lv_neT (a := 7) n7 rfl; have := lv_neT (a := 8) n8 rfl; omega) (by decide) ?_
                    refine g_iload C 0 dX9_valueWritten_180 rfl ?_
                    have e0 : r0 = t0 := (Option.some.inj hf).symm
                    exact g_iret C rfl hQ (by rw [e0]) rfl dX9_valueWritten_182
theorem w_X9_valueWritten_35 {X : gX} {σ : sg} {p1 : Int32} {x2 : Int32} {t0 : Int32} {r0 : Int32} (C : gC X cX9_valueWritten 5 RX9 (some .int) rm_X9_valueWritten)  (hQ : gQ X (qI (XG X) r0 σ))  (hf : J_X9_valueWritten_35 σ p1 x2 t0 = some r0) : G X 5 σ 35 [(0, .ref (Xd X 157)), (1, .int p1), (2, .int x2)] [.int t0] := by
  unfold J_X9_valueWritten_35 at hf
  refine g_istore_n C (lv' := [(3, .int t0), (0, .ref (Xd X 157)), (1, .int p1), (2, .int x2)]) dX9_valueWritten_35 (by decide) rfl ?_
  refine g_aload_n C 1 dX9_valueWritten_36 rfl ?_
  refine g_iload_n C 2 dX9_valueWritten_37 rfl ?_
  obtain ⟨v38, h1, hf⟩ := g_bind hf
  refine g_callVi C 1 [.int p1] (c_X9_isExit (Xl X) (gC_I C)  h1) ⟨wml_836, wim_838, wsp_20, win_10, wcd_839⟩ (by decide) sh_157 vc_9 rfl hd_X9_isExit ⟨rfl, rfl⟩ ⟨Nat.le_of_ble_eq_true rfl, Nat.le_of_ble_eq_true rfl⟩ rfl rfl (Nat.le_of_ble_eq_true rfl) dX9_valueWritten_38 ?_
  clear h1
  refine g_if_eq C 48 hf dX9_valueWritten_41 (by decide) (fun hf => ?_) (fun hf => ?_)
  · refine g_aload_n C 1 dX9_valueWritten_48 rfl ?_
    refine g_getr C 9 26 (731) (by decide) sh_157 rfl vc_9 (by decide) inXX9 wfl_687 dX9_valueWritten_49 ?_
    refine g_aload_n C 1 dX9_valueWritten_52 rfl ?_
    refine g_getr C 9 1 (158) (by decide) sh_157 rfl vc_9 (by decide) inXX9 wfl_662 dX9_valueWritten_53 ?_
    refine g_iload_n C 2 dX9_valueWritten_56 rfl ?_
    obtain ⟨q57, h1, hf⟩ := g_bind hf
    refine g_aald C h1 dX9_valueWritten_57 ?_
    clear h1
    refine g_iconst C (v := 3) dX9_valueWritten_58 rfl ?_
    obtain ⟨v59, h1, hf⟩ := g_bind hf
    refine g_iald C h1 dX9_valueWritten_59 ?_
    clear h1
    obtain ⟨v60, h1, hf⟩ := g_bind hf
    refine g_iald C h1 dX9_valueWritten_60 ?_
    clear h1
    refine g_sub [1, 2, 3, 0] rfl ?_
    exact w_X9_valueWritten_61 C  hQ  hf
  · refine g_iconst C (v := 0) dX9_valueWritten_44 rfl ?_
    refine g_goto C 61 dX9_valueWritten_45 (by decide) ?_
    refine g_sub [1, 2, 3, 0] rfl ?_
    exact w_X9_valueWritten_61 C  hQ  hf
theorem w_X9_valueWritten_34 {X : gX} {σ : sg} {p1 : Int32} {x2 : Int32} {r0 : Int32} (C : gC X cX9_valueWritten 5 RX9 (some .int) rm_X9_valueWritten)  (hQ : gQ X (qI (XG X) r0 σ))  (hf : J_X9_valueWritten_34 σ p1 x2 = some r0) : G X 5 σ 34 [(0, .ref (Xd X 157)), (1, .int p1), (2, .int x2)] [] := by
  unfold J_X9_valueWritten_34 at hf
  refine g_iconst C (v := 0) dX9_valueWritten_34 rfl ?_
  exact w_X9_valueWritten_35 C  hQ  hf
theorem w_X9_valueWritten_e {X : gX} {σ : sg} {p1 : Int32} {r0 : Int32} (C : gC X cX9_valueWritten 5 RX9 (some .int) rm_X9_valueWritten)  (hQ : gQ X (qI (XG X) r0 σ)) (hf : f_X9_valueWritten σ p1 = some r0) : G X 5 σ 0 [(0, .ref (Xd X 157)), (1, .int p1)] [] := by
  unfold f_X9_valueWritten at hf
  refine g_aload_n C 0 dX9_valueWritten_0 rfl ?_
  refine g_getr C 9 1 (158) (by decide) sh_157 rfl vc_9 (by decide) inXX9 wfl_662 dX9_valueWritten_1 ?_
  refine g_iload_n C 1 dX9_valueWritten_4 rfl ?_
  obtain ⟨q5, h1, hf⟩ := g_bind hf
  refine g_aald C h1 dX9_valueWritten_5 ?_
  clear h1
  refine g_iconst C (v := 2) dX9_valueWritten_6 rfl ?_
  obtain ⟨v7, h1, hf⟩ := g_bind hf
  refine g_iald C h1 dX9_valueWritten_7 ?_
  clear h1
  refine g_istore_n C (lv' := [(2, .int v7), (0, .ref (Xd X 157)), (1, .int p1)]) dX9_valueWritten_8 (by decide) rfl ?_
  refine g_aload_n C 1 dX9_valueWritten_9 rfl ?_
  refine g_iload_n C 2 dX9_valueWritten_10 rfl ?_
  obtain ⟨v11, h1, hf⟩ := g_bind hf
  refine g_callVi C 1 [.int p1] (c_X9_operation (Xl X) (gC_I C)  h1) ⟨wml_824, wim_826, wsp_17, win_10, wcd_827⟩ (by decide) sh_157 vc_9 rfl hd_X9_operation ⟨rfl, rfl⟩ ⟨Nat.le_of_ble_eq_true rfl, Nat.le_of_ble_eq_true rfl⟩ rfl rfl (Nat.le_of_ble_eq_true rfl) dX9_valueWritten_11 ?_
  clear h1
  refine g_if_le C 34 hf dX9_valueWritten_14 (by decide) (fun hf => ?_) (fun hf => ?_)
  · refine g_sub [1, 2, 0] rfl ?_
    exact w_X9_valueWritten_34 C  hQ  hf
  · refine g_aload_n C 1 dX9_valueWritten_17 rfl ?_
    refine g_iload_n C 2 dX9_valueWritten_18 rfl ?_
    obtain ⟨v19, h1, hf⟩ := g_bind hf
    refine g_callVi C 1 [.int p1] (c_X9_isExit (Xl X) (gC_I C)  h1) ⟨wml_836, wim_838, wsp_20, win_10, wcd_839⟩ (by decide) sh_157 vc_9 rfl hd_X9_isExit ⟨rfl, rfl⟩ ⟨Nat.le_of_ble_eq_true rfl, Nat.le_of_ble_eq_true rfl⟩ rfl rfl (Nat.le_of_ble_eq_true rfl) dX9_valueWritten_19 ?_
    clear h1
    refine g_if_ne C 34 hf dX9_valueWritten_22 (by decide) (fun hf => ?_) (fun hf => ?_)
    · refine g_aload_n C 1 dX9_valueWritten_25 rfl ?_
      refine g_getr C 9 26 (731) (by decide) sh_157 rfl vc_9 (by decide) inXX9 wfl_687 dX9_valueWritten_26 ?_
      refine g_iload_n C 0 dX9_valueWritten_29 rfl ?_
      obtain ⟨v30, h1, hf⟩ := g_bind hf
      refine g_iald C h1 dX9_valueWritten_30 ?_
      clear h1
      refine g_goto C 35 dX9_valueWritten_31 (by decide) ?_
      refine g_sub [1, 2, 0] rfl ?_
      exact w_X9_valueWritten_35 C  hQ  hf
    · refine g_sub [1, 2, 0] rfl ?_
      exact w_X9_valueWritten_34 C  hQ  hf
theorem c_X9_valueWritten (l : Launch) {Gw : gW} (hI : g_I Gw) {σ : sg} {p1 : Int32} {r : Int32}  (hf : f_X9_valueWritten σ p1 = some r) : gM l Gw yX9_valueWritten cX9_valueWritten 5 (some .int) rm_X9_valueWritten [.ref (Gw.2.2 157), .int p1] σ (qI (Gw) r σ) := by
  refine g_met hI (by decide) (Nat.le_of_ble_eq_true rfl) (fun X h1 h2 C hQ => ?_)
  subst h1; subst h2
  exact w_X9_valueWritten_e C  hQ hf
theorem dX9_behind_0 : decode cX9_behind 0 = .ok (.aload_n 0, 1) := by decide +kernel
theorem dX9_behind_1 : decode cX9_behind 1 = .ok (.iload_n 1, 1) := by decide +kernel
theorem dX9_behind_2 : decode cX9_behind 2 = .ok (.invokevirtual 114, 3) := by decide +kernel
theorem dX9_behind_5 : decode cX9_behind 5 = .ok (.bipush 12, 2) := by decide +kernel
theorem dX9_behind_7 : decode cX9_behind 7 = .ok (.if_icmp .ne 8, 3) := by decide +kernel
theorem dX9_behind_10 : decode cX9_behind 10 = .ok (.aload_n 0, 1) := by decide +kernel
theorem dX9_behind_11 : decode cX9_behind 11 = .ok (.getfield 89, 3) := by decide +kernel
theorem dX9_behind_14 : decode cX9_behind 14 = .ok (.ireturn, 1) := by decide +kernel
theorem dX9_behind_15 : decode cX9_behind 15 = .ok (.aload_n 0, 1) := by decide +kernel
theorem dX9_behind_16 : decode cX9_behind 16 = .ok (.iload_n 1, 1) := by decide +kernel
theorem dX9_behind_17 : decode cX9_behind 17 = .ok (.invokevirtual 114, 3) := by decide +kernel
theorem dX9_behind_20 : decode cX9_behind 20 = .ok (.bipush 10, 2) := by decide +kernel
theorem dX9_behind_22 : decode cX9_behind 22 = .ok (.if_icmp .eq 17, 3) := by decide +kernel
theorem dX9_behind_25 : decode cX9_behind 25 = .ok (.aload_n 0, 1) := by decide +kernel
theorem dX9_behind_26 : decode cX9_behind 26 = .ok (.iload_n 1, 1) := by decide +kernel
theorem dX9_behind_27 : decode cX9_behind 27 = .ok (.invokevirtual 114, 3) := by decide +kernel
theorem dX9_behind_30 : decode cX9_behind 30 = .ok (.bipush 11, 2) := by decide +kernel
theorem dX9_behind_32 : decode cX9_behind 32 = .ok (.if_icmp .ne 11, 3) := by decide +kernel
theorem dX9_behind_35 : decode cX9_behind 35 = .ok (.iload_n 2, 1) := by decide +kernel
theorem dX9_behind_36 : decode cX9_behind 36 = .ok (.ifCond .eq 7, 3) := by decide +kernel
theorem dX9_behind_39 : decode cX9_behind 39 = .ok (.iconst 1, 1) := by decide +kernel
theorem dX9_behind_40 : decode cX9_behind 40 = .ok (.goto 4, 3) := by decide +kernel
theorem dX9_behind_43 : decode cX9_behind 43 = .ok (.iconst 0, 1) := by decide +kernel
theorem dX9_behind_44 : decode cX9_behind 44 = .ok (.istore_n 3, 1) := by decide +kernel
theorem dX9_behind_45 : decode cX9_behind 45 = .ok (.iload_n 3, 1) := by decide +kernel
theorem dX9_behind_46 : decode cX9_behind 46 = .ok (.ifCond .eq 14, 3) := by decide +kernel
theorem dX9_behind_49 : decode cX9_behind 49 = .ok (.aload_n 0, 1) := by decide +kernel
theorem dX9_behind_50 : decode cX9_behind 50 = .ok (.getfield 11, 3) := by decide +kernel
theorem dX9_behind_53 : decode cX9_behind 53 = .ok (.iload_n 1, 1) := by decide +kernel
theorem dX9_behind_54 : decode cX9_behind 54 = .ok (.aaload, 1) := by decide +kernel
theorem dX9_behind_55 : decode cX9_behind 55 = .ok (.iconst 2, 1) := by decide +kernel
theorem dX9_behind_56 : decode cX9_behind 56 = .ok (.iaload, 1) := by decide +kernel
theorem dX9_behind_57 : decode cX9_behind 57 = .ok (.goto 6, 3) := by decide +kernel
theorem dX9_behind_60 : decode cX9_behind 60 = .ok (.iload_n 1, 1) := by decide +kernel
theorem dX9_behind_61 : decode cX9_behind 61 = .ok (.iconst 1, 1) := by decide +kernel
theorem dX9_behind_62 : decode cX9_behind 62 = .ok (.iadd, 1) := by decide +kernel
theorem dX9_behind_63 : decode cX9_behind 63 = .ok (.ireturn, 1) := by decide +kernel
abbrev rm_X9_behind : Room := { frames := 1, cells := 0, slots := 0, locals := 21 }
theorem w_X9_behind_44 {X : gX} {σ : sg} {p1 : Int32} {t0 : Int32} {r0 : Int32} (C : gC X cX9_behind 4 RX9 (some .int) rm_X9_behind)  (hQ : gQ X (qI (XG X) r0 σ))  (hf : J_X9_behind_44 σ p1 t0 = some r0) : G X 4 σ 44 [(0, .ref (Xd X 157)), (1, .int p1)] [.int t0] := by
  unfold J_X9_behind_44 at hf
  refine g_istore_n C (lv' := [(3, .int t0), (0, .ref (Xd X 157)), (1, .int p1)]) dX9_behind_44 (by decide) rfl ?_
  refine g_iload_n C 0 dX9_behind_45 rfl ?_
  refine g_if_eq C 60 hf dX9_behind_46 (by decide) (fun hf => ?_) (fun hf => ?_)
  · refine g_iload_n C 2 dX9_behind_60 rfl ?_
    refine g_iconst C (v := 1) dX9_behind_61 rfl ?_
    refine g_iadd C dX9_behind_62 ?_
    have e0 : r0 = p1 + (1 : Int32) := (Option.some.inj hf).symm
    exact g_iret C rfl hQ (by rw [e0]) rfl dX9_behind_63
  · refine g_aload_n C 1 dX9_behind_49 rfl ?_
    refine g_getr C 9 1 (158) (by decide) sh_157 rfl vc_9 (by decide) inXX9 wfl_662 dX9_behind_50 ?_
    refine g_iload_n C 2 dX9_behind_53 rfl ?_
    obtain ⟨q54, h1, hf⟩ := g_bind hf
    refine g_aald C h1 dX9_behind_54 ?_
    clear h1
    refine g_iconst C (v := 2) dX9_behind_55 rfl ?_
    obtain ⟨v56, h1, hf⟩ := g_bind hf
    refine g_iald C h1 dX9_behind_56 ?_
    clear h1
    refine g_goto C 63 dX9_behind_57 (by decide) ?_
    have e0 : r0 = v56 := (Option.some.inj hf).symm
    exact g_iret C rfl hQ (by rw [e0]) rfl dX9_behind_63
theorem w_X9_behind_39 {X : gX} {σ : sg} {p1 : Int32} {r0 : Int32} (C : gC X cX9_behind 4 RX9 (some .int) rm_X9_behind)  (hQ : gQ X (qI (XG X) r0 σ))  (hf : J_X9_behind_39 σ p1 = some r0) : G X 4 σ 39 [(0, .ref (Xd X 157)), (1, .int p1)] [] := by
  unfold J_X9_behind_39 at hf
  refine g_iconst C (v := 1) dX9_behind_39 rfl ?_
  refine g_goto C 44 dX9_behind_40 (by decide) ?_
  exact w_X9_behind_44 C  hQ  hf
theorem w_X9_behind_43 {X : gX} {σ : sg} {p1 : Int32} {r0 : Int32} (C : gC X cX9_behind 4 RX9 (some .int) rm_X9_behind)  (hQ : gQ X (qI (XG X) r0 σ))  (hf : J_X9_behind_43 σ p1 = some r0) : G X 4 σ 43 [(0, .ref (Xd X 157)), (1, .int p1)] [] := by
  unfold J_X9_behind_43 at hf
  refine g_iconst C (v := 0) dX9_behind_43 rfl ?_
  exact w_X9_behind_44 C  hQ  hf
theorem w_X9_behind_e {X : gX} {σ : sg} {p1 : Int32} {p2 : Int32} {r0 : Int32} (C : gC X cX9_behind 4 RX9 (some .int) rm_X9_behind)  (hQ : gQ X (qI (XG X) r0 σ)) (hf : f_X9_behind σ p1 p2 = some r0) : G X 4 σ 0 [(0, .ref (Xd X 157)), (1, .int p1), (2, .int p2)] [] := by
  unfold f_X9_behind at hf
  refine g_aload_n C 0 dX9_behind_0 rfl ?_
  refine g_iload_n C 1 dX9_behind_1 rfl ?_
  obtain ⟨v2, h1, hf⟩ := g_bind hf
  refine g_callVi C 1 [.int p1] (c_X9_operation (Xl X) (gC_I C)  h1) ⟨wml_824, wim_826, wsp_17, win_10, wcd_827⟩ (by decide) sh_157 vc_9 rfl hd_X9_operation ⟨rfl, rfl⟩ ⟨Nat.le_of_ble_eq_true rfl, Nat.le_of_ble_eq_true rfl⟩ rfl rfl (Nat.le_of_ble_eq_true rfl) dX9_behind_2 ?_
  clear h1
  refine g_bipush C (v := 12) dX9_behind_5 rfl ?_
  refine g_icmp_ne C 15 hf dX9_behind_7 (by decide) (fun hf => ?_) (fun hf => ?_)
  · refine g_aload_n C 0 dX9_behind_10 rfl ?_
    refine g_geti C 9 0 (by decide) sh_157 rfl vc_9 (by decide) inXX9 wfl_661 dX9_behind_11 ?_
    have e0 : r0 = σ 157 0 := (Option.some.inj hf).symm
    exact g_iret C rfl hQ (by rw [e0]) rfl dX9_behind_14
  · refine g_aload_n C 0 dX9_behind_15 rfl ?_
    refine g_iload_n C 1 dX9_behind_16 rfl ?_
    obtain ⟨v17, h1, hf⟩ := g_bind hf
    refine g_callVi C 1 [.int p1] (c_X9_operation (Xl X) (gC_I C)  h1) ⟨wml_824, wim_826, wsp_17, win_10, wcd_827⟩ (by decide) sh_157 vc_9 rfl hd_X9_operation ⟨rfl, rfl⟩ ⟨Nat.le_of_ble_eq_true rfl, Nat.le_of_ble_eq_true rfl⟩ rfl rfl (Nat.le_of_ble_eq_true rfl) dX9_behind_17 ?_
    clear h1
    refine g_bipush C (v := 10) dX9_behind_20 rfl ?_
    refine g_icmp_eq C 39 hf dX9_behind_22 (by decide) (fun hf => ?_) (fun hf => ?_)
    · refine g_sub [0, 1] rfl ?_
      exact w_X9_behind_39 C  hQ  hf
    · refine g_aload_n C 0 dX9_behind_25 rfl ?_
      refine g_iload_n C 1 dX9_behind_26 rfl ?_
      obtain ⟨v27, h1, hf⟩ := g_bind hf
      refine g_callVi C 1 [.int p1] (c_X9_operation (Xl X) (gC_I C)  h1) ⟨wml_824, wim_826, wsp_17, win_10, wcd_827⟩ (by decide) sh_157 vc_9 rfl hd_X9_operation ⟨rfl, rfl⟩ ⟨Nat.le_of_ble_eq_true rfl, Nat.le_of_ble_eq_true rfl⟩ rfl rfl (Nat.le_of_ble_eq_true rfl) dX9_behind_27 ?_
      clear h1
      refine g_bipush C (v := 11) dX9_behind_30 rfl ?_
      refine g_icmp_ne C 43 hf dX9_behind_32 (by decide) (fun hf => ?_) (fun hf => ?_)
      · refine g_iload_n C 2 dX9_behind_35 rfl ?_
        refine g_if_eq C 43 hf dX9_behind_36 (by decide) (fun hf => ?_) (fun hf => ?_)
        · refine g_sub [0, 1] rfl ?_
          exact w_X9_behind_43 C  hQ  hf
        · refine g_sub [0, 1] rfl ?_
          exact w_X9_behind_39 C  hQ  hf
      · refine g_sub [0, 1] rfl ?_
        exact w_X9_behind_43 C  hQ  hf
theorem c_X9_behind (l : Launch) {Gw : gW} (hI : g_I Gw) {σ : sg} {p1 : Int32} {p2 : Int32} {r : Int32}  (hf : f_X9_behind σ p1 p2 = some r) : gM l Gw yX9_behind cX9_behind 4 (some .int) rm_X9_behind [.ref (Gw.2.2 157), .int p1, .int p2] σ (qI (Gw) r σ) := by
  refine g_met hI (by decide) (Nat.le_of_ble_eq_true rfl) (fun X h1 h2 C hQ => ?_)
  subst h1; subst h2
  exact w_X9_behind_e C  hQ hf
theorem dX9_execute_0 : decode cX9_execute 0 = .ok (.aload_n 0, 1) := by decide +kernel
theorem dX9_execute_1 : decode cX9_execute 1 = .ok (.iconst 0, 1) := by decide +kernel
theorem dX9_execute_2 : decode cX9_execute 2 = .ok (.putfield 214, 3) := by decide +kernel
theorem dX9_execute_5 : decode cX9_execute 5 = .ok (.iconst 0, 1) := by decide +kernel
theorem dX9_execute_6 : decode cX9_execute 6 = .ok (.istore_n 2, 1) := by decide +kernel
theorem dX9_execute_7 : decode cX9_execute 7 = .ok (.iload_n 2, 1) := by decide +kernel
theorem dX9_execute_8 : decode cX9_execute 8 = .ok (.aload_n 0, 1) := by decide +kernel
theorem dX9_execute_9 : decode cX9_execute 9 = .ok (.getfield 89, 3) := by decide +kernel
theorem dX9_execute_12 : decode cX9_execute 12 = .ok (.if_icmp .ge 86, 3) := by decide +kernel
theorem dX9_execute_15 : decode cX9_execute 15 = .ok (.aload_n 0, 1) := by decide +kernel
theorem dX9_execute_16 : decode cX9_execute 16 = .ok (.getfield 214, 3) := by decide +kernel
theorem dX9_execute_19 : decode cX9_execute 19 = .ok (.iload_n 1, 1) := by decide +kernel
theorem dX9_execute_20 : decode cX9_execute 20 = .ok (.if_icmp .ge 78, 3) := by decide +kernel
theorem dX9_execute_23 : decode cX9_execute 23 = .ok (.aload_n 0, 1) := by decide +kernel
theorem dX9_execute_24 : decode cX9_execute 24 = .ok (.iload_n 2, 1) := by decide +kernel
theorem dX9_execute_25 : decode cX9_execute 25 = .ok (.invokevirtual 217, 3) := by decide +kernel
theorem dX9_execute_28 : decode cX9_execute 28 = .ok (.istore_n 3, 1) := by decide +kernel
theorem dX9_execute_29 : decode cX9_execute 29 = .ok (.aload_n 0, 1) := by decide +kernel
theorem dX9_execute_30 : decode cX9_execute 30 = .ok (.iload_n 2, 1) := by decide +kernel
theorem dX9_execute_31 : decode cX9_execute 31 = .ok (.invokevirtual 220, 3) := by decide +kernel
theorem dX9_execute_34 : decode cX9_execute 34 = .ok (.istore 4, 2) := by decide +kernel
theorem dX9_execute_36 : decode cX9_execute 36 = .ok (.aload_n 0, 1) := by decide +kernel
theorem dX9_execute_37 : decode cX9_execute 37 = .ok (.iload_n 2, 1) := by decide +kernel
theorem dX9_execute_38 : decode cX9_execute 38 = .ok (.invokevirtual 128, 3) := by decide +kernel
theorem dX9_execute_41 : decode cX9_execute 41 = .ok (.ifCond .eq 24, 3) := by decide +kernel
theorem dX9_execute_44 : decode cX9_execute 44 = .ok (.aload_n 0, 1) := by decide +kernel
theorem dX9_execute_45 : decode cX9_execute 45 = .ok (.iload_n 2, 1) := by decide +kernel
theorem dX9_execute_46 : decode cX9_execute 46 = .ok (.aload_n 0, 1) := by decide +kernel
theorem dX9_execute_47 : decode cX9_execute 47 = .ok (.getfield 59, 3) := by decide +kernel
theorem dX9_execute_50 : decode cX9_execute 50 = .ok (.aload_n 0, 1) := by decide +kernel
theorem dX9_execute_51 : decode cX9_execute 51 = .ok (.getfield 11, 3) := by decide +kernel
theorem dX9_execute_54 : decode cX9_execute 54 = .ok (.iload_n 2, 1) := by decide +kernel
theorem dX9_execute_55 : decode cX9_execute 55 = .ok (.aaload, 1) := by decide +kernel
theorem dX9_execute_56 : decode cX9_execute 56 = .ok (.iconst 3, 1) := by decide +kernel
theorem dX9_execute_57 : decode cX9_execute 57 = .ok (.iaload, 1) := by decide +kernel
theorem dX9_execute_58 : decode cX9_execute 58 = .ok (.iaload, 1) := by decide +kernel
theorem dX9_execute_59 : decode cX9_execute 59 = .ok (.invokevirtual 223, 3) := by decide +kernel
theorem dX9_execute_62 : decode cX9_execute 62 = .ok (.goto 6, 3) := by decide +kernel
theorem dX9_execute_65 : decode cX9_execute 65 = .ok (.iload_n 2, 1) := by decide +kernel
theorem dX9_execute_66 : decode cX9_execute 66 = .ok (.iconst 1, 1) := by decide +kernel
theorem dX9_execute_67 : decode cX9_execute 67 = .ok (.iadd, 1) := by decide +kernel
theorem dX9_execute_68 : decode cX9_execute 68 = .ok (.istore 5, 2) := by decide +kernel
theorem dX9_execute_70 : decode cX9_execute 70 = .ok (.iload_n 3, 1) := by decide +kernel
theorem dX9_execute_71 : decode cX9_execute 71 = .ok (.ifCond .lt 11, 3) := by decide +kernel
theorem dX9_execute_74 : decode cX9_execute 74 = .ok (.aload_n 0, 1) := by decide +kernel
theorem dX9_execute_75 : decode cX9_execute 75 = .ok (.getfield 59, 3) := by decide +kernel
theorem dX9_execute_78 : decode cX9_execute 78 = .ok (.iload_n 3, 1) := by decide +kernel
theorem dX9_execute_79 : decode cX9_execute 79 = .ok (.iload 4, 2) := by decide +kernel
theorem dX9_execute_81 : decode cX9_execute 81 = .ok (.iastore, 1) := by decide +kernel
theorem dX9_execute_82 : decode cX9_execute 82 = .ok (.iload 5, 2) := by decide +kernel
theorem dX9_execute_84 : decode cX9_execute 84 = .ok (.istore_n 2, 1) := by decide +kernel
theorem dX9_execute_85 : decode cX9_execute 85 = .ok (.aload_n 0, 1) := by decide +kernel
theorem dX9_execute_86 : decode cX9_execute 86 = .ok (.dup, 1) := by decide +kernel
theorem dX9_execute_87 : decode cX9_execute 87 = .ok (.getfield 214, 3) := by decide +kernel
theorem dX9_execute_90 : decode cX9_execute 90 = .ok (.iconst 1, 1) := by decide +kernel
theorem dX9_execute_91 : decode cX9_execute 91 = .ok (.iadd, 1) := by decide +kernel
theorem dX9_execute_92 : decode cX9_execute 92 = .ok (.putfield 214, 3) := by decide +kernel
theorem dX9_execute_95 : decode cX9_execute 95 = .ok (.goto (-88), 3) := by decide +kernel
theorem dX9_execute_98 : decode cX9_execute 98 = .ok (.iload_n 2, 1) := by decide +kernel
theorem dX9_execute_99 : decode cX9_execute 99 = .ok (.aload_n 0, 1) := by decide +kernel
theorem dX9_execute_100 : decode cX9_execute 100 = .ok (.getfield 89, 3) := by decide +kernel
theorem dX9_execute_103 : decode cX9_execute 103 = .ok (.if_icmp .lt 7, 3) := by decide +kernel
theorem dX9_execute_106 : decode cX9_execute 106 = .ok (.iconst 1, 1) := by decide +kernel
theorem dX9_execute_107 : decode cX9_execute 107 = .ok (.goto 4, 3) := by decide +kernel
theorem dX9_execute_110 : decode cX9_execute 110 = .ok (.iconst 0, 1) := by decide +kernel
theorem dX9_execute_111 : decode cX9_execute 111 = .ok (.ireturn, 1) := by decide +kernel
abbrev rm_X9_execute : Room := { frames := 3, cells := 0, slots := 0, locals := 66 }
theorem w_X9_execute_98 {X : gX} {x2 : Int32} {σ : sg} {r0 : (Int32 × sg)} (C : gC X cX9_execute 6 RX9 (some .boolean) rm_X9_execute)  (hQ : gQ X (qI (XG X) r0.1 r0.2))  (hf : J_X9_execute_98 x2 σ = some r0) : G X 6 σ 98 [(0, .ref (Xd X 157)), (2, .int x2)] [] := by
  unfold J_X9_execute_98 at hf
  refine g_iload_n C 1 dX9_execute_98 rfl ?_
  refine g_aload_n C 0 dX9_execute_99 rfl ?_
  refine g_geti C 9 0 (by decide) sh_157 rfl vc_9 (by decide) inXX9 wfl_661 dX9_execute_100 ?_
  refine g_icmp_lt C 110 hf dX9_execute_103 (by decide) (fun hf => ?_) (fun hf => ?_)
  · refine g_iconst C (v := 0) dX9_execute_110 rfl ?_
    have e0 : r0 = ((0 : Int32), σ) := (Option.some.inj hf).symm
    exact g_iret C rfl hQ (by rw [e0]) rfl dX9_execute_111
  · refine g_iconst C (v := 1) dX9_execute_106 rfl ?_
    refine g_goto C 111 dX9_execute_107 (by decide) ?_
    have e0 : r0 = ((1 : Int32), σ) := (Option.some.inj hf).symm
    exact g_iret C rfl hQ (by rw [e0]) rfl dX9_execute_111
theorem w_X9_execute_82 {X : gX} {p1 : Int32} {x5 : Int32} {σ : sg} {r0 : (Int32 × sg)} {r1 : ((Int32 × sg) ⊕ (Int32 × sg))} (C : gC X cX9_execute 6 RX9 (some .boolean) rm_X9_execute)  (hQ : gQ X (qI (XG X) r0.1 r0.2)) (A1 : ∀ b, r1 = .inl b → G X 6 b.2 7 [(0, .ref (Xd X 157)), (1, .int p1), (2, .int b.1)] []) (B1 : ∀ b, r1 = .inr b → b = r0) (hf : J_X9_execute_82 p1 x5 σ = some r1) : G X 6 σ 82 [(0, .ref (Xd X 157)), (1, .int p1), (5, .int x5)] [] := by
  unfold J_X9_execute_82 at hf
  refine g_iload C 2 dX9_execute_82 rfl ?_
  refine g_istore_n C (lv' := [(2, .int x5), (0, .ref (Xd X 157)), (1, .int p1), (5, .int x5)]) dX9_execute_84 (by decide) rfl ?_
  refine g_aload_n C 1 dX9_execute_85 rfl ?_
  refine g_dup C dX9_execute_86 rfl ?_
  refine g_geti C 9 29 (by decide) sh_157 rfl vc_9 (by decide) inXX9 wfl_690 dX9_execute_87 ?_
  refine g_iconst C (v := 1) dX9_execute_90 rfl ?_
  refine g_iadd C dX9_execute_91 ?_
  obtain ⟨s92, h1, hf⟩ := g_bind hf
  refine g_put C 9 29 (by decide) sh_157 rfl (by decide) vc_9 (by decide) tyX9 tyX9_ok nmX9 inXX9 wfl_690 rfl (ty := .int) (by decide +kernel) rfl rfl dX9_execute_92 ?_
  rw [Option.some.inj h1]
  clear h1
  refine g_goto C 7 dX9_execute_95 (by decide) ?_
  refine g_sub [1, 2, 0] rfl ?_
  exact A1 (x5, s92) (Option.some.inj hf).symm
theorem w_X9_execute_68 {X : gX} {p1 : Int32} {x3 : Int32} {x4 : Int32} {t0 : Int32} {σ : sg} {r0 : (Int32 × sg)} {r1 : ((Int32 × sg) ⊕ (Int32 × sg))} (C : gC X cX9_execute 6 RX9 (some .boolean) rm_X9_execute)  (hQ : gQ X (qI (XG X) r0.1 r0.2)) (A1 : ∀ b, r1 = .inl b → G X 6 b.2 7 [(0, .ref (Xd X 157)), (1, .int p1), (2, .int b.1)] []) (B1 : ∀ b, r1 = .inr b → b = r0) (hf : J_X9_execute_68 p1 x3 x4 t0 σ = some r1) : G X 6 σ 68 [(0, .ref (Xd X 157)), (1, .int p1), (3, .int x3), (4, .int x4)] [.int t0] := by
  unfold J_X9_execute_68 at hf
  refine g_istore C (lv' := [(5, .int t0), (0, .ref (Xd X 157)), (1, .int p1), (3, .int x3), (4, .int x4)]) dX9_execute_68 (by decide) rfl ?_
  refine g_iload_n C 3 dX9_execute_70 rfl ?_
  refine g_if_lt C 82 hf dX9_execute_71 (by decide) (fun hf => ?_) (fun hf => ?_)
  · refine g_sub [1, 2, 0] rfl ?_
    exact w_X9_execute_82 C  hQ A1 B1 hf
  · refine g_aload_n C 1 dX9_execute_74 rfl ?_
    refine g_getr C 9 26 (731) (by decide) sh_157 rfl vc_9 (by decide) inXX9 wfl_687 dX9_execute_75 ?_
    refine g_iload_n C 3 dX9_execute_78 rfl ?_
    refine g_iload C 4 dX9_execute_79 rfl ?_
    obtain ⟨s81, h1, hf⟩ := g_bind hf
    refine g_iast C h1 dX9_execute_81 ?_
    clear h1
    refine g_sub [1, 2, 0] rfl ?_
    exact w_X9_execute_82 C  hQ A1 B1 hf
theorem w_X9_execute_7 {X : gX} {p1 : Int32} {x2 : Int32} {σ : sg} {r0 : (Int32 × sg)} {r1 : ((Int32 × sg) ⊕ (Int32 × sg))} (C : gC X cX9_execute 6 RX9 (some .boolean) rm_X9_execute)  (hQ : gQ X (qI (XG X) r0.1 r0.2)) (A1 : ∀ b, r1 = .inl b → G X 6 b.2 7 [(0, .ref (Xd X 157)), (1, .int p1), (2, .int b.1)] []) (B1 : ∀ b, r1 = .inr b → b = r0) (hf : B_X9_execute_7 p1 x2 σ = some r1) : G X 6 σ 7 [(0, .ref (Xd X 157)), (1, .int p1), (2, .int x2)] [] := by
  unfold B_X9_execute_7 at hf
  refine g_iload_n C 2 dX9_execute_7 rfl ?_
  refine g_aload_n C 0 dX9_execute_8 rfl ?_
  refine g_geti C 9 0 (by decide) sh_157 rfl vc_9 (by decide) inXX9 wfl_661 dX9_execute_9 ?_
  refine g_icmp_ge C 98 hf dX9_execute_12 (by decide) (fun hf => ?_) (fun hf => ?_)
  · refine g_sub [0, 2] rfl ?_
    obtain ⟨t, h1, hf⟩ := g_bind hf
    exact w_X9_execute_98 C  hQ  (h1.trans (congrArg some ((B1 _ (Option.some.inj hf).symm).symm).symm))
  · refine g_aload_n C 0 dX9_execute_15 rfl ?_
    refine g_geti C 9 29 (by decide) sh_157 rfl vc_9 (by decide) inXX9 wfl_690 dX9_execute_16 ?_
    refine g_iload_n C 1 dX9_execute_19 rfl ?_
    refine g_icmp_ge C 98 hf dX9_execute_20 (by decide) (fun hf => ?_) (fun hf => ?_)
    · refine g_sub [0, 2] rfl ?_
      obtain ⟨t, h1, hf⟩ := g_bind hf
      exact w_X9_execute_98 C  hQ  (h1.trans (congrArg some ((B1 _ (Option.some.inj hf).symm).symm).symm))
    · refine g_aload_n C 0 dX9_execute_23 rfl ?_
      refine g_iload_n C 2 dX9_execute_24 rfl ?_
      obtain ⟨v25, h1, hf⟩ := g_bind hf
      refine g_callVi C 1 [.int x2] (c_X9_placeWritten (Xl X) (gC_I C)  h1) ⟨wml_999, wim_1001, wsp_36, win_10, wcd_1002⟩ (by decide) sh_157 vc_9 rfl hd_X9_placeWritten ⟨rfl, rfl⟩ ⟨Nat.le_of_ble_eq_true rfl, Nat.le_of_ble_eq_true rfl⟩ rfl rfl (Nat.le_of_ble_eq_true rfl) dX9_execute_25 ?_
      clear h1
      refine g_istore_n C (lv' := [(3, .int v25), (0, .ref (Xd X 157)), (1, .int p1), (2, .int x2)]) dX9_execute_28 (by decide) rfl ?_
      refine g_aload_n C 1 dX9_execute_29 rfl ?_
      refine g_iload_n C 3 dX9_execute_30 rfl ?_
      obtain ⟨v31, h1, hf⟩ := g_bind hf
      refine g_callVi C 1 [.int x2] (c_X9_valueWritten (Xl X) (gC_I C)  h1) ⟨wml_1003, wim_1005, wsp_37, win_10, wcd_1006⟩ (by decide) sh_157 vc_9 rfl hd_X9_valueWritten ⟨rfl, rfl⟩ ⟨Nat.le_of_ble_eq_true rfl, Nat.le_of_ble_eq_true rfl⟩ rfl rfl (Nat.le_of_ble_eq_true rfl) dX9_execute_31 ?_
      clear h1
      refine g_istore C (lv' := [(4, .int v31), (3, .int v25), (0, .ref (Xd X 157)), (1, .int p1), (2, .int x2)]) dX9_execute_34 (by decide) rfl ?_
      refine g_aload_n C 2 dX9_execute_36 rfl ?_
      refine g_iload_n C 4 dX9_execute_37 rfl ?_
      obtain ⟨v38, h1, hf⟩ := g_bind hf
      refine g_callVi C 1 [.int x2] (c_X9_isExit (Xl X) (gC_I C)  h1) ⟨wml_836, wim_838, wsp_20, win_10, wcd_839⟩ (by decide) sh_157 vc_9 rfl hd_X9_isExit ⟨rfl, rfl⟩ ⟨Nat.le_of_ble_eq_true rfl, Nat.le_of_ble_eq_true rfl⟩ rfl rfl (Nat.le_of_ble_eq_true rfl) dX9_execute_38 ?_
      clear h1
      refine g_if_eq C 65 hf dX9_execute_41 (by decide) (fun hf => ?_) (fun hf => ?_)
      · refine g_iload_n C 4 dX9_execute_65 rfl ?_
        refine g_iconst C (v := 1) dX9_execute_66 rfl ?_
        refine g_iadd C dX9_execute_67 ?_
        refine g_sub [2, 3, 1, 0] rfl ?_
        exact w_X9_execute_68 C  hQ A1 B1 hf
      · refine g_aload_n C 2 dX9_execute_44 rfl ?_
        refine g_iload_n C 4 dX9_execute_45 rfl ?_
        refine g_aload_n C 2 dX9_execute_46 rfl ?_
        refine g_getr C 9 26 (731) (by decide) sh_157 rfl vc_9 (by decide) inXX9 wfl_687 dX9_execute_47 ?_
        refine g_aload_n C 2 dX9_execute_50 rfl ?_
        refine g_getr C 9 1 (158) (by decide) sh_157 rfl vc_9 (by decide) inXX9 wfl_662 dX9_execute_51 ?_
        refine g_iload_n C 4 dX9_execute_54 rfl ?_
        obtain ⟨q55, h1, hf⟩ := g_bind hf
        refine g_aald C h1 dX9_execute_55 ?_
        clear h1
        refine g_iconst C (v := 3) dX9_execute_56 rfl ?_
        obtain ⟨v57, h1, hf⟩ := g_bind hf
        refine g_iald C h1 dX9_execute_57 ?_
        clear h1
        obtain ⟨v58, h1, hf⟩ := g_bind hf
        refine g_iald C h1 dX9_execute_58 ?_
        clear h1
        obtain ⟨v59, h1, hf⟩ := g_bind hf
        refine g_callVi C 2 [.int x2, .int v58] (c_X9_behind (Xl X) (gC_I C)  h1) ⟨wml_1007, wim_1009, wsp_38, win_10, wcd_1010⟩ (by decide) sh_157 vc_9 rfl hd_X9_behind ⟨rfl, rfl⟩ ⟨Nat.le_of_ble_eq_true rfl, Nat.le_of_ble_eq_true rfl⟩ rfl rfl (Nat.le_of_ble_eq_true rfl) dX9_execute_59 ?_
        clear h1
        refine g_goto C 68 dX9_execute_62 (by decide) ?_
        refine g_sub [2, 3, 1, 0] rfl ?_
        exact w_X9_execute_68 C  hQ A1 B1 hf
theorem wl_X9_execute_7 {X : gX} {p1 : Int32} {r0 : (Int32 × sg)} (C : gC X cX9_execute 6 RX9 (some .boolean) rm_X9_execute)  (hQ : gQ X (qI (XG X) r0.1 r0.2))  {n : Nat} {a : (Int32 × sg)} (hf : L_X9_execute_7 p1 n a = some r0) : G X 6 a.2 7 [(0, .ref (Xd X 157)), (1, .int p1), (2, .int a.1)] [] := by
  unfold L_X9_execute_7 at hf
  have key := g_loop_ind (res := r0) (f := fun a => B_X9_execute_7 p1 a.1 a.2) (P := fun a => G X 6 a.2 7 [(0, .ref (Xd X 157)), (1, .int p1), (2, .int a.1)] []) (fun a r1 h1 k1 k2 => w_X9_execute_7 (x2 := a.1) (σ := a.2) C  hQ  k1 k2 h1)
  exact key n a hf
theorem w_X9_execute_e {X : gX} {σ : sg} {p1 : Int32} {r0 : (Int32 × sg)} (C : gC X cX9_execute 6 RX9 (some .boolean) rm_X9_execute)  (hQ : gQ X (qI (XG X) r0.1 r0.2)) (hf : f_X9_execute σ p1 = some r0) : G X 6 σ 0 [(0, .ref (Xd X 157)), (1, .int p1)] [] := by
  unfold f_X9_execute at hf
  refine g_aload_n C 0 dX9_execute_0 rfl ?_
  refine g_iconst C (v := 0) dX9_execute_1 rfl ?_
  obtain ⟨s2, h1, hf⟩ := g_bind hf
  refine g_put C 9 29 (by decide) sh_157 rfl (by decide) vc_9 (by decide) tyX9 tyX9_ok nmX9 inXX9 wfl_690 rfl (ty := .int) (by decide +kernel) rfl rfl dX9_execute_2 ?_
  rw [Option.some.inj h1]
  clear h1
  refine g_iconst C (v := 0) dX9_execute_5 rfl ?_
  refine g_istore_n C (lv' := [(2, .int (0 : Int32)), (0, .ref (Xd X 157)), (1, .int p1)]) dX9_execute_6 (by decide) rfl ?_
  refine g_sub [1, 2, 0] rfl ?_
  exact wl_X9_execute_7 (a := ((0 : Int32), s2)) C  hQ  hf
theorem c_X9_execute (l : Launch) {Gw : gW} (hI : g_I Gw) {σ : sg} {p1 : Int32} {r : (Int32 × sg)}  (hf : f_X9_execute σ p1 = some r) : gM l Gw yX9_execute cX9_execute 6 (some .boolean) rm_X9_execute [.ref (Gw.2.2 157), .int p1] σ (qI (Gw) r.1 r.2) := by
  refine g_met hI (by decide) (Nat.le_of_ble_eq_true rfl) (fun X h1 h2 C hQ => ?_)
  subst h1; subst h2
  exact w_X9_execute_e C  hQ hf
theorem dX9_run_0 : decode cX9_run 0 = .ok (.iload_n 1, 1) := by decide +kernel
theorem dX9_run_1 : decode cX9_run 1 = .ok (.iconst 0, 1) := by decide +kernel
theorem dX9_run_2 : decode cX9_run 2 = .ok (.sipush 300, 3) := by decide +kernel
theorem dX9_run_5 : decode cX9_run 5 = .ok (.invokestatic 77, 3) := by decide +kernel
theorem dX9_run_8 : decode cX9_run 8 = .ok (.ifCond .ne 6, 3) := by decide +kernel
theorem dX9_run_11 : decode cX9_run 11 = .ok (.bipush (-2), 2) := by decide +kernel
theorem dX9_run_13 : decode cX9_run 13 = .ok (.ireturn, 1) := by decide +kernel
theorem dX9_run_14 : decode cX9_run 14 = .ok (.aload_n 0, 1) := by decide +kernel
theorem dX9_run_15 : decode cX9_run 15 = .ok (.invokevirtual 140, 3) := by decide +kernel
theorem dX9_run_18 : decode cX9_run 18 = .ok (.ifCond .ne 6, 3) := by decide +kernel
theorem dX9_run_21 : decode cX9_run 21 = .ok (.bipush (-6), 2) := by decide +kernel
theorem dX9_run_23 : decode cX9_run 23 = .ok (.ireturn, 1) := by decide +kernel
theorem dX9_run_24 : decode cX9_run 24 = .ok (.aload_n 0, 1) := by decide +kernel
theorem dX9_run_25 : decode cX9_run 25 = .ok (.iload_n 1, 1) := by decide +kernel
theorem dX9_run_26 : decode cX9_run 26 = .ok (.invokevirtual 226, 3) := by decide +kernel
theorem dX9_run_29 : decode cX9_run 29 = .ok (.ifCond .eq 10, 3) := by decide +kernel
theorem dX9_run_32 : decode cX9_run 32 = .ok (.aload_n 0, 1) := by decide +kernel
theorem dX9_run_33 : decode cX9_run 33 = .ok (.getfield 214, 3) := by decide +kernel
theorem dX9_run_36 : decode cX9_run 36 = .ok (.goto 5, 3) := by decide +kernel
theorem dX9_run_39 : decode cX9_run 39 = .ok (.bipush (-7), 2) := by decide +kernel
theorem dX9_run_41 : decode cX9_run 41 = .ok (.ireturn, 1) := by decide +kernel
abbrev rm_X9_run : Room := { frames := 4, cells := 0, slots := 0, locals := 91 }
theorem w_X9_run_e {X : gX} {σ : sg} {p1 : Int32} {r0 : (Int32 × sg)} (C : gC X cX9_run 2 RX9 (some .int) rm_X9_run)  (hQ : gQ X (qI (XG X) r0.1 r0.2)) (hf : f_X9_run σ p1 = some r0) : G X 2 σ 0 [(0, .ref (Xd X 157)), (1, .int p1)] [] := by
  unfold f_X9_run at hf
  refine g_iload_n C 1 dX9_run_0 rfl ?_
  refine g_iconst C (v := 0) dX9_run_1 rfl ?_
  refine g_sipush C (v := 300) dX9_run_2 rfl ?_
  obtain ⟨v5, h1, hf⟩ := g_bind hf
  refine g_callSi C 3 [.int p1, .int (0 : Int32), .int (300 : Int32)] (c_X9_isBetween (Xl X) (gC_I C)  h1) ⟨wml_771, wst_772, win_10, wcd_773⟩ hd_X9_isBetween ⟨rfl, rfl⟩ ⟨Nat.le_of_ble_eq_true rfl, Nat.le_of_ble_eq_true rfl⟩ rfl rfl (Nat.le_of_ble_eq_true rfl) dX9_run_5 ?_
  clear h1
  refine g_if_ne C 14 hf dX9_run_8 (by decide) (fun hf => ?_) (fun hf => ?_)
  · refine g_bipush C (v := (-2)) dX9_run_11 rfl ?_
    have e0 : r0 = ((-2 : Int32), σ) := (Option.some.inj hf).symm
    exact g_iret C rfl hQ (by rw [e0]) rfl dX9_run_13
  · refine g_aload_n C 0 dX9_run_14 rfl ?_
    obtain ⟨v15, h1, hf⟩ := g_bind hf
    refine g_callVi C 0 [] (c_X9_isComplete (Xl X) (gC_I C)  h1) ⟨wml_816, wim_818, wsp_15, win_10, wcd_819⟩ (by decide) sh_157 vc_9 rfl hd_X9_isComplete ⟨rfl, rfl⟩ ⟨Nat.le_of_ble_eq_true rfl, Nat.le_of_ble_eq_true rfl⟩ rfl rfl (Nat.le_of_ble_eq_true rfl) dX9_run_15 ?_
    clear h1
    refine g_if_ne C 24 hf dX9_run_18 (by decide) (fun hf => ?_) (fun hf => ?_)
    · refine g_bipush C (v := (-6)) dX9_run_21 rfl ?_
      have e0 : r0 = ((-6 : Int32), σ) := (Option.some.inj hf).symm
      exact g_iret C rfl hQ (by rw [e0]) rfl dX9_run_23
    · refine g_aload_n C 0 dX9_run_24 rfl ?_
      refine g_iload_n C 1 dX9_run_25 rfl ?_
      obtain ⟨q26, h1, hf⟩ := g_bind hf
      refine g_callVi C 1 [.int p1] (c_X9_execute (Xl X) (gC_I C)  h1) ⟨wml_995, wim_997, wsp_35, win_10, wcd_998⟩ (by decide) sh_157 vc_9 rfl hd_X9_execute ⟨rfl, rfl⟩ ⟨Nat.le_of_ble_eq_true rfl, Nat.le_of_ble_eq_true rfl⟩ rfl rfl (Nat.le_of_ble_eq_true rfl) dX9_run_26 ?_
      clear h1
      refine g_if_eq C 39 hf dX9_run_29 (by decide) (fun hf => ?_) (fun hf => ?_)
      · refine g_bipush C (v := (-7)) dX9_run_39 rfl ?_
        have e0 : r0 = ((-7 : Int32), q26.2) := (Option.some.inj hf).symm
        exact g_iret C rfl hQ (by rw [e0]) rfl dX9_run_41
      · refine g_aload_n C 0 dX9_run_32 rfl ?_
        refine g_geti C 9 29 (by decide) sh_157 rfl vc_9 (by decide) inXX9 wfl_690 dX9_run_33 ?_
        refine g_goto C 41 dX9_run_36 (by decide) ?_
        have e0 : r0 = (q26.2 157 29, q26.2) := (Option.some.inj hf).symm
        exact g_iret C rfl hQ (by rw [e0]) rfl dX9_run_41
theorem c_X9_run (l : Launch) {Gw : gW} (hI : g_I Gw) {σ : sg} {p1 : Int32} {r : (Int32 × sg)}  (hf : f_X9_run σ p1 = some r) : gM l Gw yX9_run cX9_run 2 (some .int) rm_X9_run [.ref (Gw.2.2 157), .int p1] σ (qI (Gw) r.1 r.2) := by
  refine g_met hI (by decide) (Nat.le_of_ble_eq_true rfl) (fun X h1 h2 C hQ => ?_)
  subst h1; subst h2
  exact w_X9_run_e C  hQ hf
theorem dX9_executeBlock_0 : decode cX9_executeBlock 0 = .ok (.aload_n 0, 1) := by decide +kernel
theorem dX9_executeBlock_1 : decode cX9_executeBlock 1 = .ok (.getfield 26, 3) := by decide +kernel
theorem dX9_executeBlock_4 : decode cX9_executeBlock 4 = .ok (.iload_n 1, 1) := by decide +kernel
theorem dX9_executeBlock_5 : decode cX9_executeBlock 5 = .ok (.iaload, 1) := by decide +kernel
theorem dX9_executeBlock_6 : decode cX9_executeBlock 6 = .ok (.istore_n 2, 1) := by decide +kernel
theorem dX9_executeBlock_7 : decode cX9_executeBlock 7 = .ok (.aload_n 0, 1) := by decide +kernel
theorem dX9_executeBlock_8 : decode cX9_executeBlock 8 = .ok (.getfield 26, 3) := by decide +kernel
theorem dX9_executeBlock_11 : decode cX9_executeBlock 11 = .ok (.iload_n 1, 1) := by decide +kernel
theorem dX9_executeBlock_12 : decode cX9_executeBlock 12 = .ok (.iconst 1, 1) := by decide +kernel
theorem dX9_executeBlock_13 : decode cX9_executeBlock 13 = .ok (.iadd, 1) := by decide +kernel
theorem dX9_executeBlock_14 : decode cX9_executeBlock 14 = .ok (.iaload, 1) := by decide +kernel
theorem dX9_executeBlock_15 : decode cX9_executeBlock 15 = .ok (.istore_n 3, 1) := by decide +kernel
theorem dX9_executeBlock_16 : decode cX9_executeBlock 16 = .ok (.iload_n 3, 1) := by decide +kernel
theorem dX9_executeBlock_17 : decode cX9_executeBlock 17 = .ok (.istore 4, 2) := by decide +kernel
theorem dX9_executeBlock_19 : decode cX9_executeBlock 19 = .ok (.aload_n 0, 1) := by decide +kernel
theorem dX9_executeBlock_20 : decode cX9_executeBlock 20 = .ok (.iload_n 1, 1) := by decide +kernel
theorem dX9_executeBlock_21 : decode cX9_executeBlock 21 = .ok (.invokevirtual 188, 3) := by decide +kernel
theorem dX9_executeBlock_24 : decode cX9_executeBlock 24 = .ok (.istore 5, 2) := by decide +kernel
theorem dX9_executeBlock_26 : decode cX9_executeBlock 26 = .ok (.iconst 0, 1) := by decide +kernel
theorem dX9_executeBlock_27 : decode cX9_executeBlock 27 = .ok (.istore 6, 2) := by decide +kernel
theorem dX9_executeBlock_29 : decode cX9_executeBlock 29 = .ok (.iload 6, 2) := by decide +kernel
theorem dX9_executeBlock_31 : decode cX9_executeBlock 31 = .ok (.iload 5, 2) := by decide +kernel
theorem dX9_executeBlock_33 : decode cX9_executeBlock 33 = .ok (.if_icmp .gt 186, 3) := by decide +kernel
theorem dX9_executeBlock_36 : decode cX9_executeBlock 36 = .ok (.iload_n 2, 1) := by decide +kernel
theorem dX9_executeBlock_37 : decode cX9_executeBlock 37 = .ok (.istore 7, 2) := by decide +kernel
theorem dX9_executeBlock_39 : decode cX9_executeBlock 39 = .ok (.iload 7, 2) := by decide +kernel
theorem dX9_executeBlock_41 : decode cX9_executeBlock 41 = .ok (.iload_n 3, 1) := by decide +kernel
theorem dX9_executeBlock_42 : decode cX9_executeBlock 42 = .ok (.if_icmp .ge 64, 3) := by decide +kernel
theorem dX9_executeBlock_45 : decode cX9_executeBlock 45 = .ok (.aload_n 0, 1) := by decide +kernel
theorem dX9_executeBlock_46 : decode cX9_executeBlock 46 = .ok (.getfield 44, 3) := by decide +kernel
theorem dX9_executeBlock_49 : decode cX9_executeBlock 49 = .ok (.iload 7, 2) := by decide +kernel
theorem dX9_executeBlock_51 : decode cX9_executeBlock 51 = .ok (.aaload, 1) := by decide +kernel
theorem dX9_executeBlock_52 : decode cX9_executeBlock 52 = .ok (.iconst 2, 1) := by decide +kernel
theorem dX9_executeBlock_53 : decode cX9_executeBlock 53 = .ok (.iaload, 1) := by decide +kernel
theorem dX9_executeBlock_54 : decode cX9_executeBlock 54 = .ok (.iload 6, 2) := by decide +kernel
theorem dX9_executeBlock_56 : decode cX9_executeBlock 56 = .ok (.if_icmp .ge 44, 3) := by decide +kernel
theorem dX9_executeBlock_59 : decode cX9_executeBlock 59 = .ok (.aload_n 0, 1) := by decide +kernel
theorem dX9_executeBlock_60 : decode cX9_executeBlock 60 = .ok (.getfield 74, 3) := by decide +kernel
theorem dX9_executeBlock_63 : decode cX9_executeBlock 63 = .ok (.iload 7, 2) := by decide +kernel
theorem dX9_executeBlock_65 : decode cX9_executeBlock 65 = .ok (.iaload, 1) := by decide +kernel
theorem dX9_executeBlock_66 : decode cX9_executeBlock 66 = .ok (.iload 6, 2) := by decide +kernel
theorem dX9_executeBlock_68 : decode cX9_executeBlock 68 = .ok (.if_icmp .ne 32, 3) := by decide +kernel
theorem dX9_executeBlock_71 : decode cX9_executeBlock 71 = .ok (.aload_n 0, 1) := by decide +kernel
theorem dX9_executeBlock_72 : decode cX9_executeBlock 72 = .ok (.getfield 68, 3) := by decide +kernel
theorem dX9_executeBlock_75 : decode cX9_executeBlock 75 = .ok (.iload 7, 2) := by decide +kernel
theorem dX9_executeBlock_77 : decode cX9_executeBlock 77 = .ok (.iaload, 1) := by decide +kernel
theorem dX9_executeBlock_78 : decode cX9_executeBlock 78 = .ok (.ifCond .lt 22, 3) := by decide +kernel
theorem dX9_executeBlock_81 : decode cX9_executeBlock 81 = .ok (.aload_n 0, 1) := by decide +kernel
theorem dX9_executeBlock_82 : decode cX9_executeBlock 82 = .ok (.getfield 59, 3) := by decide +kernel
theorem dX9_executeBlock_85 : decode cX9_executeBlock 85 = .ok (.aload_n 0, 1) := by decide +kernel
theorem dX9_executeBlock_86 : decode cX9_executeBlock 86 = .ok (.getfield 68, 3) := by decide +kernel
theorem dX9_executeBlock_89 : decode cX9_executeBlock 89 = .ok (.iload 7, 2) := by decide +kernel
theorem dX9_executeBlock_91 : decode cX9_executeBlock 91 = .ok (.iaload, 1) := by decide +kernel
theorem dX9_executeBlock_92 : decode cX9_executeBlock 92 = .ok (.aload_n 0, 1) := by decide +kernel
theorem dX9_executeBlock_93 : decode cX9_executeBlock 93 = .ok (.getfield 71, 3) := by decide +kernel
theorem dX9_executeBlock_96 : decode cX9_executeBlock 96 = .ok (.iload 7, 2) := by decide +kernel
theorem dX9_executeBlock_98 : decode cX9_executeBlock 98 = .ok (.iaload, 1) := by decide +kernel
theorem dX9_executeBlock_99 : decode cX9_executeBlock 99 = .ok (.iastore, 1) := by decide +kernel
theorem dX9_executeBlock_100 : decode cX9_executeBlock 100 = .ok (.iinc 7 1, 3) := by decide +kernel
theorem dX9_executeBlock_103 : decode cX9_executeBlock 103 = .ok (.goto (-64), 3) := by decide +kernel
theorem dX9_executeBlock_106 : decode cX9_executeBlock 106 = .ok (.iload_n 2, 1) := by decide +kernel
theorem dX9_executeBlock_107 : decode cX9_executeBlock 107 = .ok (.istore 7, 2) := by decide +kernel
theorem dX9_executeBlock_109 : decode cX9_executeBlock 109 = .ok (.iload 7, 2) := by decide +kernel
theorem dX9_executeBlock_111 : decode cX9_executeBlock 111 = .ok (.iload_n 3, 1) := by decide +kernel
theorem dX9_executeBlock_112 : decode cX9_executeBlock 112 = .ok (.if_icmp .ge 101, 3) := by decide +kernel
theorem dX9_executeBlock_115 : decode cX9_executeBlock 115 = .ok (.aload_n 0, 1) := by decide +kernel
theorem dX9_executeBlock_116 : decode cX9_executeBlock 116 = .ok (.getfield 44, 3) := by decide +kernel
theorem dX9_executeBlock_119 : decode cX9_executeBlock 119 = .ok (.iload 7, 2) := by decide +kernel
theorem dX9_executeBlock_121 : decode cX9_executeBlock 121 = .ok (.aaload, 1) := by decide +kernel
theorem dX9_executeBlock_122 : decode cX9_executeBlock 122 = .ok (.iconst 2, 1) := by decide +kernel
theorem dX9_executeBlock_123 : decode cX9_executeBlock 123 = .ok (.iaload, 1) := by decide +kernel
theorem dX9_executeBlock_124 : decode cX9_executeBlock 124 = .ok (.iload 6, 2) := by decide +kernel
theorem dX9_executeBlock_126 : decode cX9_executeBlock 126 = .ok (.if_icmp .ne 81, 3) := by decide +kernel
theorem dX9_executeBlock_129 : decode cX9_executeBlock 129 = .ok (.aload_n 0, 1) := by decide +kernel
theorem dX9_executeBlock_130 : decode cX9_executeBlock 130 = .ok (.getfield 68, 3) := by decide +kernel
theorem dX9_executeBlock_133 : decode cX9_executeBlock 133 = .ok (.iload 7, 2) := by decide +kernel
theorem dX9_executeBlock_135 : decode cX9_executeBlock 135 = .ok (.aload_n 0, 1) := by decide +kernel
theorem dX9_executeBlock_136 : decode cX9_executeBlock 136 = .ok (.iload 7, 2) := by decide +kernel
theorem dX9_executeBlock_138 : decode cX9_executeBlock 138 = .ok (.invokevirtual 217, 3) := by decide +kernel
theorem dX9_executeBlock_141 : decode cX9_executeBlock 141 = .ok (.iastore, 1) := by decide +kernel
theorem dX9_executeBlock_142 : decode cX9_executeBlock 142 = .ok (.aload_n 0, 1) := by decide +kernel
theorem dX9_executeBlock_143 : decode cX9_executeBlock 143 = .ok (.getfield 71, 3) := by decide +kernel
theorem dX9_executeBlock_146 : decode cX9_executeBlock 146 = .ok (.iload 7, 2) := by decide +kernel
theorem dX9_executeBlock_148 : decode cX9_executeBlock 148 = .ok (.aload_n 0, 1) := by decide +kernel
theorem dX9_executeBlock_149 : decode cX9_executeBlock 149 = .ok (.iload 7, 2) := by decide +kernel
theorem dX9_executeBlock_151 : decode cX9_executeBlock 151 = .ok (.invokevirtual 220, 3) := by decide +kernel
theorem dX9_executeBlock_154 : decode cX9_executeBlock 154 = .ok (.iastore, 1) := by decide +kernel
theorem dX9_executeBlock_155 : decode cX9_executeBlock 155 = .ok (.aload_n 0, 1) := by decide +kernel
theorem dX9_executeBlock_156 : decode cX9_executeBlock 156 = .ok (.getfield 74, 3) := by decide +kernel
theorem dX9_executeBlock_159 : decode cX9_executeBlock 159 = .ok (.iload 7, 2) := by decide +kernel
theorem dX9_executeBlock_161 : decode cX9_executeBlock 161 = .ok (.iload 6, 2) := by decide +kernel
theorem dX9_executeBlock_163 : decode cX9_executeBlock 163 = .ok (.aload_n 0, 1) := by decide +kernel
theorem dX9_executeBlock_164 : decode cX9_executeBlock 164 = .ok (.iload 7, 2) := by decide +kernel
theorem dX9_executeBlock_166 : decode cX9_executeBlock 166 = .ok (.invokevirtual 125, 3) := by decide +kernel
theorem dX9_executeBlock_169 : decode cX9_executeBlock 169 = .ok (.iadd, 1) := by decide +kernel
theorem dX9_executeBlock_170 : decode cX9_executeBlock 170 = .ok (.iastore, 1) := by decide +kernel
theorem dX9_executeBlock_171 : decode cX9_executeBlock 171 = .ok (.aload_n 0, 1) := by decide +kernel
theorem dX9_executeBlock_172 : decode cX9_executeBlock 172 = .ok (.iload 7, 2) := by decide +kernel
theorem dX9_executeBlock_174 : decode cX9_executeBlock 174 = .ok (.invokevirtual 128, 3) := by decide +kernel
theorem dX9_executeBlock_177 : decode cX9_executeBlock 177 = .ok (.ifCond .eq 26, 3) := by decide +kernel
theorem dX9_executeBlock_180 : decode cX9_executeBlock 180 = .ok (.aload_n 0, 1) := by decide +kernel
theorem dX9_executeBlock_181 : decode cX9_executeBlock 181 = .ok (.iload 7, 2) := by decide +kernel
theorem dX9_executeBlock_183 : decode cX9_executeBlock 183 = .ok (.aload_n 0, 1) := by decide +kernel
theorem dX9_executeBlock_184 : decode cX9_executeBlock 184 = .ok (.getfield 59, 3) := by decide +kernel
theorem dX9_executeBlock_187 : decode cX9_executeBlock 187 = .ok (.aload_n 0, 1) := by decide +kernel
theorem dX9_executeBlock_188 : decode cX9_executeBlock 188 = .ok (.getfield 11, 3) := by decide +kernel
theorem dX9_executeBlock_191 : decode cX9_executeBlock 191 = .ok (.iload 7, 2) := by decide +kernel
theorem dX9_executeBlock_193 : decode cX9_executeBlock 193 = .ok (.aaload, 1) := by decide +kernel
theorem dX9_executeBlock_194 : decode cX9_executeBlock 194 = .ok (.iconst 3, 1) := by decide +kernel
theorem dX9_executeBlock_195 : decode cX9_executeBlock 195 = .ok (.iaload, 1) := by decide +kernel
theorem dX9_executeBlock_196 : decode cX9_executeBlock 196 = .ok (.iaload, 1) := by decide +kernel
theorem dX9_executeBlock_197 : decode cX9_executeBlock 197 = .ok (.invokevirtual 223, 3) := by decide +kernel
theorem dX9_executeBlock_200 : decode cX9_executeBlock 200 = .ok (.goto 5, 3) := by decide +kernel
theorem dX9_executeBlock_203 : decode cX9_executeBlock 203 = .ok (.iload 4, 2) := by decide +kernel
theorem dX9_executeBlock_205 : decode cX9_executeBlock 205 = .ok (.istore 4, 2) := by decide +kernel
theorem dX9_executeBlock_207 : decode cX9_executeBlock 207 = .ok (.iinc 7 1, 3) := by decide +kernel
theorem dX9_executeBlock_210 : decode cX9_executeBlock 210 = .ok (.goto (-101), 3) := by decide +kernel
theorem dX9_executeBlock_213 : decode cX9_executeBlock 213 = .ok (.iinc 6 1, 3) := by decide +kernel
theorem dX9_executeBlock_216 : decode cX9_executeBlock 216 = .ok (.goto (-187), 3) := by decide +kernel
theorem dX9_executeBlock_219 : decode cX9_executeBlock 219 = .ok (.iload 4, 2) := by decide +kernel
theorem dX9_executeBlock_221 : decode cX9_executeBlock 221 = .ok (.ireturn, 1) := by decide +kernel
abbrev rm_X9_executeBlock : Room := { frames := 3, cells := 0, slots := 0, locals := 66 }
theorem w_X9_executeBlock_207 {X : gX} {x2 : Int32} {x3 : Int32} {x4 : Int32} {x5 : Int32} {x6 : Int32} {x7 : Int32} {σ : sg} {r0 : (Int32 × sg)} {r1 : ((Int32 × Int32 × sg) ⊕ (Int32 × sg))} {r2 : ((Int32 × Int32 × sg) ⊕ ((Int32 × Int32 × sg) ⊕ (Int32 × sg)))} (C : gC X cX9_executeBlock 8 RX9 (some .int) rm_X9_executeBlock)  (hQ : gQ X (qI (XG X) r0.1 r0.2)) (A1 : ∀ b, r1 = .inl b → G X 8 b.2.2 29 [(0, .ref (Xd X 157)), (2, .int x2), (3, .int x3), (4, .int b.1), (5, .int x5), (6, .int b.2.1)] []) (B1 : ∀ b, r1 = .inr b → b = r0) (A2 : ∀ b, r2 = .inl b → G X 8 b.2.2 109 [(0, .ref (Xd X 157)), (2, .int x2), (3, .int x3), (4, .int b.1), (5, .int x5), (6, .int x6), (7, .int b.2.1)] []) (B2 : ∀ b, r2 = .inr b → b = r1) (hf : J_X9_executeBlock_207 x2 x3 x4 x5 x6 x7 σ = some r2) : G X 8 σ 207 [(0, .ref (Xd X 157)), (2, .int x2), (3, .int x3), (4, .int x4), (5, .int x5), (6, .int x6), (7, .int x7)] [] := by
  unfold J_X9_executeBlock_207 at hf
  refine g_iinc C (v := x7 + (1 : Int32)) (lv' := [(7, .int (x7 + (1 : Int32))), (0, .ref (Xd X 157)), (2, .int x2), (3, .int x3), (4, .int x4), (5, .int x5), (6, .int x6)]) 6 dX9_executeBlock_207 rfl rfl (by decide) rfl ?_
  refine g_goto C 109 dX9_executeBlock_210 (by decide) ?_
  refine g_sub [1, 2, 3, 4, 5, 6, 0] rfl ?_
  exact A2 (x4, x7 + (1 : Int32), σ) (Option.some.inj hf).symm
theorem w_X9_executeBlock_205 {X : gX} {x2 : Int32} {x3 : Int32} {x5 : Int32} {x6 : Int32} {x7 : Int32} {t0 : Int32} {σ : sg} {r0 : (Int32 × sg)} {r1 : ((Int32 × Int32 × sg) ⊕ (Int32 × sg))} {r2 : ((Int32 × Int32 × sg) ⊕ ((Int32 × Int32 × sg) ⊕ (Int32 × sg)))} (C : gC X cX9_executeBlock 8 RX9 (some .int) rm_X9_executeBlock)  (hQ : gQ X (qI (XG X) r0.1 r0.2)) (A1 : ∀ b, r1 = .inl b → G X 8 b.2.2 29 [(0, .ref (Xd X 157)), (2, .int x2), (3, .int x3), (4, .int b.1), (5, .int x5), (6, .int b.2.1)] []) (B1 : ∀ b, r1 = .inr b → b = r0) (A2 : ∀ b, r2 = .inl b → G X 8 b.2.2 109 [(0, .ref (Xd X 157)), (2, .int x2), (3, .int x3), (4, .int b.1), (5, .int x5), (6, .int x6), (7, .int b.2.1)] []) (B2 : ∀ b, r2 = .inr b → b = r1) (hf : J_X9_executeBlock_205 x2 x3 x5 x6 x7 t0 σ = some r2) : G X 8 σ 205 [(0, .ref (Xd X 157)), (2, .int x2), (3, .int x3), (5, .int x5), (6, .int x6), (7, .int x7)] [.int t0] := by
  unfold J_X9_executeBlock_205 at hf
  refine g_istore C (lv' := [(4, .int t0), (0, .ref (Xd X 157)), (2, .int x2), (3, .int x3), (5, .int x5), (6, .int x6), (7, .int x7)]) dX9_executeBlock_205 (by decide) rfl ?_
  refine g_sub [1, 2, 3, 0, 4, 5, 6] rfl ?_
  exact w_X9_executeBlock_207 C  hQ A1 B1 A2 B2 hf
theorem w_X9_executeBlock_109 {X : gX} {x2 : Int32} {x3 : Int32} {x5 : Int32} {x6 : Int32} {x4 : Int32} {x7 : Int32} {σ : sg} {r0 : (Int32 × sg)} {r1 : ((Int32 × Int32 × sg) ⊕ (Int32 × sg))} {r2 : ((Int32 × Int32 × sg) ⊕ ((Int32 × Int32 × sg) ⊕ (Int32 × sg)))} (C : gC X cX9_executeBlock 8 RX9 (some .int) rm_X9_executeBlock)  (hQ : gQ X (qI (XG X) r0.1 r0.2)) (A1 : ∀ b, r1 = .inl b → G X 8 b.2.2 29 [(0, .ref (Xd X 157)), (2, .int x2), (3, .int x3), (4, .int b.1), (5, .int x5), (6, .int b.2.1)] []) (B1 : ∀ b, r1 = .inr b → b = r0) (A2 : ∀ b, r2 = .inl b → G X 8 b.2.2 109 [(0, .ref (Xd X 157)), (2, .int x2), (3, .int x3), (4, .int b.1), (5, .int x5), (6, .int x6), (7, .int b.2.1)] []) (B2 : ∀ b, r2 = .inr b → b = r1) (hf : B_X9_executeBlock_109 x2 x3 x5 x6 x4 x7 σ = some r2) : G X 8 σ 109 [(0, .ref (Xd X 157)), (2, .int x2), (3, .int x3), (4, .int x4), (5, .int x5), (6, .int x6), (7, .int x7)] [] := by
  unfold B_X9_executeBlock_109 at hf
  refine g_iload C 6 dX9_executeBlock_109 rfl ?_
  refine g_iload_n C 2 dX9_executeBlock_111 rfl ?_
  refine g_icmp_ge C 213 hf dX9_executeBlock_112 (by decide) (fun hf => ?_) (fun hf => ?_)
  · refine g_iinc C (v := x6 + (1 : Int32)) (lv' := [(6, .int (x6 + (1 : Int32))), (0, .ref (Xd X 157)), (2, .int x2), (3, .int x3), (4, .int x4), (5, .int x5), (7, .int x7)]) 5 dX9_executeBlock_213 rfl rfl (by decide) rfl ?_
    refine g_goto C 29 dX9_executeBlock_216 (by decide) ?_
    refine g_sub [1, 2, 3, 4, 5, 0] rfl ?_
    exact A1 (x4, x6 + (1 : Int32), σ) (B2 _ (Option.some.inj hf).symm).symm
  · refine g_aload_n C 0 dX9_executeBlock_115 rfl ?_
    refine g_getr C 9 19 (686) (by decide) sh_157 rfl vc_9 (by decide) inXX9 wfl_680 dX9_executeBlock_116 ?_
    refine g_iload C 6 dX9_executeBlock_119 rfl ?_
    obtain ⟨q121, h1, hf⟩ := g_bind hf
    refine g_aald C h1 dX9_executeBlock_121 ?_
    clear h1
    refine g_iconst C (v := 2) dX9_executeBlock_122 rfl ?_
    obtain ⟨v123, h1, hf⟩ := g_bind hf
    refine g_iald C h1 dX9_executeBlock_123 ?_
    clear h1
    refine g_iload C 5 dX9_executeBlock_124 rfl ?_
    refine g_icmp_ne C 207 hf dX9_executeBlock_126 (by decide) (fun hf => ?_) (fun hf => ?_)
    · refine g_aload_n C 0 dX9_executeBlock_129 rfl ?_
      refine g_getr C 9 30 (734) (by decide) sh_157 rfl vc_9 (by decide) inXX9 wfl_691 dX9_executeBlock_130 ?_
      refine g_iload C 6 dX9_executeBlock_133 rfl ?_
      refine g_aload_n C 0 dX9_executeBlock_135 rfl ?_
      refine g_iload C 6 dX9_executeBlock_136 rfl ?_
      obtain ⟨v138, h1, hf⟩ := g_bind hf
      refine g_callVi C 1 [.int x7] (c_X9_placeWritten (Xl X) (gC_I C)  h1) ⟨wml_999, wim_1001, wsp_36, win_10, wcd_1002⟩ (by decide) sh_157 vc_9 rfl hd_X9_placeWritten ⟨rfl, rfl⟩ ⟨Nat.le_of_ble_eq_true rfl, Nat.le_of_ble_eq_true rfl⟩ rfl rfl (Nat.le_of_ble_eq_true rfl) dX9_executeBlock_138 ?_
      clear h1
      obtain ⟨s141, h1, hf⟩ := g_bind hf
      refine g_iast C h1 dX9_executeBlock_141 ?_
      clear h1
      refine g_aload_n C 0 dX9_executeBlock_142 rfl ?_
      refine g_getr C 9 31 (735) (by decide) sh_157 rfl vc_9 (by decide) inXX9 wfl_692 dX9_executeBlock_143 ?_
      refine g_iload C 6 dX9_executeBlock_146 rfl ?_
      refine g_aload_n C 0 dX9_executeBlock_148 rfl ?_
      refine g_iload C 6 dX9_executeBlock_149 rfl ?_
      obtain ⟨v151, h1, hf⟩ := g_bind hf
      refine g_callVi C 1 [.int x7] (c_X9_valueWritten (Xl X) (gC_I C)  h1) ⟨wml_1003, wim_1005, wsp_37, win_10, wcd_1006⟩ (by decide) sh_157 vc_9 rfl hd_X9_valueWritten ⟨rfl, rfl⟩ ⟨Nat.le_of_ble_eq_true rfl, Nat.le_of_ble_eq_true rfl⟩ rfl rfl (Nat.le_of_ble_eq_true rfl) dX9_executeBlock_151 ?_
      clear h1
      obtain ⟨s154, h1, hf⟩ := g_bind hf
      refine g_iast C h1 dX9_executeBlock_154 ?_
      clear h1
      refine g_aload_n C 0 dX9_executeBlock_155 rfl ?_
      refine g_getr C 9 32 (736) (by decide) sh_157 rfl vc_9 (by decide) inXX9 wfl_693 dX9_executeBlock_156 ?_
      refine g_iload C 6 dX9_executeBlock_159 rfl ?_
      refine g_iload C 5 dX9_executeBlock_161 rfl ?_
      refine g_aload_n C 0 dX9_executeBlock_163 rfl ?_
      refine g_iload C 6 dX9_executeBlock_164 rfl ?_
      obtain ⟨v166, h1, hf⟩ := g_bind hf
      refine g_callVi C 1 [.int x7] (c_X9_latency (Xl X) (gC_I C)  h1) ⟨wml_864, wim_866, wsp_24, win_10, wcd_867⟩ (by decide) sh_157 vc_9 rfl hd_X9_latency ⟨rfl, rfl⟩ ⟨Nat.le_of_ble_eq_true rfl, Nat.le_of_ble_eq_true rfl⟩ rfl rfl (Nat.le_of_ble_eq_true rfl) dX9_executeBlock_166 ?_
      clear h1
      refine g_iadd C dX9_executeBlock_169 ?_
      obtain ⟨s170, h1, hf⟩ := g_bind hf
      refine g_iast C h1 dX9_executeBlock_170 ?_
      clear h1
      refine g_aload_n C 0 dX9_executeBlock_171 rfl ?_
      refine g_iload C 6 dX9_executeBlock_172 rfl ?_
      obtain ⟨v174, h1, hf⟩ := g_bind hf
      refine g_callVi C 1 [.int x7] (c_X9_isExit (Xl X) (gC_I C)  h1) ⟨wml_836, wim_838, wsp_20, win_10, wcd_839⟩ (by decide) sh_157 vc_9 rfl hd_X9_isExit ⟨rfl, rfl⟩ ⟨Nat.le_of_ble_eq_true rfl, Nat.le_of_ble_eq_true rfl⟩ rfl rfl (Nat.le_of_ble_eq_true rfl) dX9_executeBlock_174 ?_
      clear h1
      refine g_if_eq C 203 hf dX9_executeBlock_177 (by decide) (fun hf => ?_) (fun hf => ?_)
      · refine g_iload C 3 dX9_executeBlock_203 rfl ?_
        refine g_sub [0, 1, 2, 4, 5, 6] rfl ?_
        exact w_X9_executeBlock_205 C  hQ A1 B1 A2 B2 hf
      · refine g_aload_n C 0 dX9_executeBlock_180 rfl ?_
        refine g_iload C 6 dX9_executeBlock_181 rfl ?_
        refine g_aload_n C 0 dX9_executeBlock_183 rfl ?_
        refine g_getr C 9 26 (731) (by decide) sh_157 rfl vc_9 (by decide) inXX9 wfl_687 dX9_executeBlock_184 ?_
        refine g_aload_n C 0 dX9_executeBlock_187 rfl ?_
        refine g_getr C 9 1 (158) (by decide) sh_157 rfl vc_9 (by decide) inXX9 wfl_662 dX9_executeBlock_188 ?_
        refine g_iload C 6 dX9_executeBlock_191 rfl ?_
        obtain ⟨q193, h1, hf⟩ := g_bind hf
        refine g_aald C h1 dX9_executeBlock_193 ?_
        clear h1
        refine g_iconst C (v := 3) dX9_executeBlock_194 rfl ?_
        obtain ⟨v195, h1, hf⟩ := g_bind hf
        refine g_iald C h1 dX9_executeBlock_195 ?_
        clear h1
        obtain ⟨v196, h1, hf⟩ := g_bind hf
        refine g_iald C h1 dX9_executeBlock_196 ?_
        clear h1
        obtain ⟨v197, h1, hf⟩ := g_bind hf
        refine g_callVi C 2 [.int x7, .int v196] (c_X9_behind (Xl X) (gC_I C)  h1) ⟨wml_1007, wim_1009, wsp_38, win_10, wcd_1010⟩ (by decide) sh_157 vc_9 rfl hd_X9_behind ⟨rfl, rfl⟩ ⟨Nat.le_of_ble_eq_true rfl, Nat.le_of_ble_eq_true rfl⟩ rfl rfl (Nat.le_of_ble_eq_true rfl) dX9_executeBlock_197 ?_
        clear h1
        refine g_goto C 205 dX9_executeBlock_200 (by decide) ?_
        refine g_sub [0, 1, 2, 4, 5, 6] rfl ?_
        exact w_X9_executeBlock_205 C  hQ A1 B1 A2 B2 hf
    · exact w_X9_executeBlock_207 C  hQ A1 B1 A2 B2 hf
theorem wl_X9_executeBlock_109 {X : gX} {x2 : Int32} {x3 : Int32} {x5 : Int32} {x6 : Int32} {r0 : (Int32 × sg)} {r1 : ((Int32 × Int32 × sg) ⊕ (Int32 × sg))} (C : gC X cX9_executeBlock 8 RX9 (some .int) rm_X9_executeBlock)  (hQ : gQ X (qI (XG X) r0.1 r0.2)) (A1 : ∀ b, r1 = .inl b → G X 8 b.2.2 29 [(0, .ref (Xd X 157)), (2, .int x2), (3, .int x3), (4, .int b.1), (5, .int x5), (6, .int b.2.1)] []) (B1 : ∀ b, r1 = .inr b → b = r0) {n : Nat} {a : (Int32 × Int32 × sg)} (hf : L_X9_executeBlock_109 x2 x3 x5 x6 n a = some r1) : G X 8 a.2.2 109 [(0, .ref (Xd X 157)), (2, .int x2), (3, .int x3), (4, .int a.1), (5, .int x5), (6, .int x6), (7, .int a.2.1)] [] := by
  unfold L_X9_executeBlock_109 at hf
  have key := g_loop_ind (res := r1) (f := fun a => B_X9_executeBlock_109 x2 x3 x5 x6 a.1 a.2.1 a.2.2) (P := fun a => G X 8 a.2.2 109 [(0, .ref (Xd X 157)), (2, .int x2), (3, .int x3), (4, .int a.1), (5, .int x5), (6, .int x6), (7, .int a.2.1)] []) (fun a r2 h1 k1 k2 => w_X9_executeBlock_109 (x4 := a.1) (x7 := a.2.1) (σ := a.2.2) C  hQ A1 B1 k1 k2 h1)
  exact key n a hf
theorem w_X9_executeBlock_100 {X : gX} {x2 : Int32} {x3 : Int32} {x4 : Int32} {x5 : Int32} {x6 : Int32} {x7 : Int32} {σ : sg} {r0 : (Int32 × sg)} {r1 : ((Int32 × Int32 × sg) ⊕ (Int32 × sg))} {r2 : ((Int32 × sg) ⊕ ((Int32 × Int32 × sg) ⊕ (Int32 × sg)))} (C : gC X cX9_executeBlock 8 RX9 (some .int) rm_X9_executeBlock)  (hQ : gQ X (qI (XG X) r0.1 r0.2)) (A1 : ∀ b, r1 = .inl b → G X 8 b.2.2 29 [(0, .ref (Xd X 157)), (2, .int x2), (3, .int x3), (4, .int b.1), (5, .int x5), (6, .int b.2.1)] []) (B1 : ∀ b, r1 = .inr b → b = r0) (A2 : ∀ b, r2 = .inl b → G X 8 b.2 39 [(0, .ref (Xd X 157)), (2, .int x2), (3, .int x3), (4, .int x4), (5, .int x5), (6, .int x6), (7, .int b.1)] []) (B2 : ∀ b, r2 = .inr b → b = r1) (hf : J_X9_executeBlock_100 x2 x3 x4 x5 x6 x7 σ = some r2) : G X 8 σ 100 [(0, .ref (Xd X 157)), (2, .int x2), (3, .int x3), (4, .int x4), (5, .int x5), (6, .int x6), (7, .int x7)] [] := by
  unfold J_X9_executeBlock_100 at hf
  refine g_iinc C (v := x7 + (1 : Int32)) (lv' := [(7, .int (x7 + (1 : Int32))), (0, .ref (Xd X 157)), (2, .int x2), (3, .int x3), (4, .int x4), (5, .int x5), (6, .int x6)]) 6 dX9_executeBlock_100 rfl rfl (by decide) rfl ?_
  refine g_goto C 39 dX9_executeBlock_103 (by decide) ?_
  refine g_sub [1, 2, 3, 4, 5, 6, 0] rfl ?_
  exact A2 (x7 + (1 : Int32), σ) (Option.some.inj hf).symm
theorem w_X9_executeBlock_39 {X : gX} {x2 : Int32} {x3 : Int32} {x4 : Int32} {x5 : Int32} {x6 : Int32} {x7 : Int32} {σ : sg} {r0 : (Int32 × sg)} {r1 : ((Int32 × Int32 × sg) ⊕ (Int32 × sg))} {r2 : ((Int32 × sg) ⊕ ((Int32 × Int32 × sg) ⊕ (Int32 × sg)))} (C : gC X cX9_executeBlock 8 RX9 (some .int) rm_X9_executeBlock)  (hQ : gQ X (qI (XG X) r0.1 r0.2)) (A1 : ∀ b, r1 = .inl b → G X 8 b.2.2 29 [(0, .ref (Xd X 157)), (2, .int x2), (3, .int x3), (4, .int b.1), (5, .int x5), (6, .int b.2.1)] []) (B1 : ∀ b, r1 = .inr b → b = r0) (A2 : ∀ b, r2 = .inl b → G X 8 b.2 39 [(0, .ref (Xd X 157)), (2, .int x2), (3, .int x3), (4, .int x4), (5, .int x5), (6, .int x6), (7, .int b.1)] []) (B2 : ∀ b, r2 = .inr b → b = r1) (hf : B_X9_executeBlock_39 x2 x3 x4 x5 x6 x7 σ = some r2) : G X 8 σ 39 [(0, .ref (Xd X 157)), (2, .int x2), (3, .int x3), (4, .int x4), (5, .int x5), (6, .int x6), (7, .int x7)] [] := by
  unfold B_X9_executeBlock_39 at hf
  refine g_iload C 6 dX9_executeBlock_39 rfl ?_
  refine g_iload_n C 2 dX9_executeBlock_41 rfl ?_
  refine g_icmp_ge C 106 hf dX9_executeBlock_42 (by decide) (fun hf => ?_) (fun hf => ?_)
  · refine g_iload_n C 1 dX9_executeBlock_106 rfl ?_
    refine g_istore C (lv' := [(7, .int x2), (0, .ref (Xd X 157)), (2, .int x2), (3, .int x3), (4, .int x4), (5, .int x5), (6, .int x6)]) dX9_executeBlock_107 (by decide) rfl ?_
    refine g_sub [1, 2, 3, 4, 5, 6, 0] rfl ?_
    obtain ⟨t, h1, hf⟩ := g_bind hf
    exact wl_X9_executeBlock_109 (a := (x4, x2, σ)) C  hQ A1 B1 (h1.trans (congrArg some ((B2 _ (Option.some.inj hf).symm).symm).symm))
  · refine g_aload_n C 0 dX9_executeBlock_45 rfl ?_
    refine g_getr C 9 19 (686) (by decide) sh_157 rfl vc_9 (by decide) inXX9 wfl_680 dX9_executeBlock_46 ?_
    refine g_iload C 6 dX9_executeBlock_49 rfl ?_
    obtain ⟨q51, h1, hf⟩ := g_bind hf
    refine g_aald C h1 dX9_executeBlock_51 ?_
    clear h1
    refine g_iconst C (v := 2) dX9_executeBlock_52 rfl ?_
    obtain ⟨v53, h1, hf⟩ := g_bind hf
    refine g_iald C h1 dX9_executeBlock_53 ?_
    clear h1
    refine g_iload C 5 dX9_executeBlock_54 rfl ?_
    refine g_icmp_ge C 100 hf dX9_executeBlock_56 (by decide) (fun hf => ?_) (fun hf => ?_)
    · exact w_X9_executeBlock_100 C  hQ A1 B1 A2 B2 hf
    · refine g_aload_n C 0 dX9_executeBlock_59 rfl ?_
      refine g_getr C 9 32 (736) (by decide) sh_157 rfl vc_9 (by decide) inXX9 wfl_693 dX9_executeBlock_60 ?_
      refine g_iload C 6 dX9_executeBlock_63 rfl ?_
      obtain ⟨v65, h1, hf⟩ := g_bind hf
      refine g_iald C h1 dX9_executeBlock_65 ?_
      clear h1
      refine g_iload C 5 dX9_executeBlock_66 rfl ?_
      refine g_icmp_ne C 100 hf dX9_executeBlock_68 (by decide) (fun hf => ?_) (fun hf => ?_)
      · refine g_aload_n C 0 dX9_executeBlock_71 rfl ?_
        refine g_getr C 9 30 (734) (by decide) sh_157 rfl vc_9 (by decide) inXX9 wfl_691 dX9_executeBlock_72 ?_
        refine g_iload C 6 dX9_executeBlock_75 rfl ?_
        obtain ⟨v77, h1, hf⟩ := g_bind hf
        refine g_iald C h1 dX9_executeBlock_77 ?_
        clear h1
        refine g_if_lt C 100 hf dX9_executeBlock_78 (by decide) (fun hf => ?_) (fun hf => ?_)
        · exact w_X9_executeBlock_100 C  hQ A1 B1 A2 B2 hf
        · refine g_aload_n C 0 dX9_executeBlock_81 rfl ?_
          refine g_getr C 9 26 (731) (by decide) sh_157 rfl vc_9 (by decide) inXX9 wfl_687 dX9_executeBlock_82 ?_
          refine g_aload_n C 0 dX9_executeBlock_85 rfl ?_
          refine g_getr C 9 30 (734) (by decide) sh_157 rfl vc_9 (by decide) inXX9 wfl_691 dX9_executeBlock_86 ?_
          refine g_iload C 6 dX9_executeBlock_89 rfl ?_
          obtain ⟨v91, h1, hf⟩ := g_bind hf
          refine g_iald C h1 dX9_executeBlock_91 ?_
          clear h1
          refine g_aload_n C 0 dX9_executeBlock_92 rfl ?_
          refine g_getr C 9 31 (735) (by decide) sh_157 rfl vc_9 (by decide) inXX9 wfl_692 dX9_executeBlock_93 ?_
          refine g_iload C 6 dX9_executeBlock_96 rfl ?_
          obtain ⟨v98, h1, hf⟩ := g_bind hf
          refine g_iald C h1 dX9_executeBlock_98 ?_
          clear h1
          obtain ⟨s99, h1, hf⟩ := g_bind hf
          refine g_iast C h1 dX9_executeBlock_99 ?_
          clear h1
          exact w_X9_executeBlock_100 C  hQ A1 B1 A2 B2 hf
      · exact w_X9_executeBlock_100 C  hQ A1 B1 A2 B2 hf
theorem wl_X9_executeBlock_39 {X : gX} {x2 : Int32} {x3 : Int32} {x4 : Int32} {x5 : Int32} {x6 : Int32} {r0 : (Int32 × sg)} {r1 : ((Int32 × Int32 × sg) ⊕ (Int32 × sg))} (C : gC X cX9_executeBlock 8 RX9 (some .int) rm_X9_executeBlock)  (hQ : gQ X (qI (XG X) r0.1 r0.2)) (A1 : ∀ b, r1 = .inl b → G X 8 b.2.2 29 [(0, .ref (Xd X 157)), (2, .int x2), (3, .int x3), (4, .int b.1), (5, .int x5), (6, .int b.2.1)] []) (B1 : ∀ b, r1 = .inr b → b = r0) {n : Nat} {a : (Int32 × sg)} (hf : L_X9_executeBlock_39 x2 x3 x4 x5 x6 n a = some r1) : G X 8 a.2 39 [(0, .ref (Xd X 157)), (2, .int x2), (3, .int x3), (4, .int x4), (5, .int x5), (6, .int x6), (7, .int a.1)] [] := by
  unfold L_X9_executeBlock_39 at hf
  have key := g_loop_ind (res := r1) (f := fun a => B_X9_executeBlock_39 x2 x3 x4 x5 x6 a.1 a.2) (P := fun a => G X 8 a.2 39 [(0, .ref (Xd X 157)), (2, .int x2), (3, .int x3), (4, .int x4), (5, .int x5), (6, .int x6), (7, .int a.1)] []) (fun a r2 h1 k1 k2 => w_X9_executeBlock_39 (x7 := a.1) (σ := a.2) C  hQ A1 B1 k1 k2 h1)
  exact key n a hf
theorem w_X9_executeBlock_29 {X : gX} {x2 : Int32} {x3 : Int32} {x5 : Int32} {x4 : Int32} {x6 : Int32} {σ : sg} {r0 : (Int32 × sg)} {r1 : ((Int32 × Int32 × sg) ⊕ (Int32 × sg))} (C : gC X cX9_executeBlock 8 RX9 (some .int) rm_X9_executeBlock)  (hQ : gQ X (qI (XG X) r0.1 r0.2)) (A1 : ∀ b, r1 = .inl b → G X 8 b.2.2 29 [(0, .ref (Xd X 157)), (2, .int x2), (3, .int x3), (4, .int b.1), (5, .int x5), (6, .int b.2.1)] []) (B1 : ∀ b, r1 = .inr b → b = r0) (hf : B_X9_executeBlock_29 x2 x3 x5 x4 x6 σ = some r1) : G X 8 σ 29 [(0, .ref (Xd X 157)), (2, .int x2), (3, .int x3), (4, .int x4), (5, .int x5), (6, .int x6)] [] := by
  unfold B_X9_executeBlock_29 at hf
  refine g_iload C 5 dX9_executeBlock_29 rfl ?_
  refine g_iload C 4 dX9_executeBlock_31 rfl ?_
  refine g_icmp_gt C 219 hf dX9_executeBlock_33 (by decide) (fun hf => ?_) (fun hf => ?_)
  · refine g_iload C 3 dX9_executeBlock_219 rfl ?_
    have e0 : r0 = (x4, σ) := (B1 _ (Option.some.inj hf).symm).symm
    exact g_iret C rfl hQ (by rw [e0]) rfl dX9_executeBlock_221
  · refine g_iload_n C 1 dX9_executeBlock_36 rfl ?_
    refine g_istore C (lv' := [(7, .int x2), (0, .ref (Xd X 157)), (2, .int x2), (3, .int x3), (4, .int x4), (5, .int x5), (6, .int x6)]) dX9_executeBlock_37 (by decide) rfl ?_
    refine g_sub [1, 2, 3, 4, 5, 6, 0] rfl ?_
    exact wl_X9_executeBlock_39 (a := (x2, σ)) C  hQ A1 B1 hf
theorem wl_X9_executeBlock_29 {X : gX} {x2 : Int32} {x3 : Int32} {x5 : Int32} {r0 : (Int32 × sg)} (C : gC X cX9_executeBlock 8 RX9 (some .int) rm_X9_executeBlock)  (hQ : gQ X (qI (XG X) r0.1 r0.2))  {n : Nat} {a : (Int32 × Int32 × sg)} (hf : L_X9_executeBlock_29 x2 x3 x5 n a = some r0) : G X 8 a.2.2 29 [(0, .ref (Xd X 157)), (2, .int x2), (3, .int x3), (4, .int a.1), (5, .int x5), (6, .int a.2.1)] [] := by
  unfold L_X9_executeBlock_29 at hf
  have key := g_loop_ind (res := r0) (f := fun a => B_X9_executeBlock_29 x2 x3 x5 a.1 a.2.1 a.2.2) (P := fun a => G X 8 a.2.2 29 [(0, .ref (Xd X 157)), (2, .int x2), (3, .int x3), (4, .int a.1), (5, .int x5), (6, .int a.2.1)] []) (fun a r1 h1 k1 k2 => w_X9_executeBlock_29 (x4 := a.1) (x6 := a.2.1) (σ := a.2.2) C  hQ  k1 k2 h1)
  exact key n a hf
theorem w_X9_executeBlock_e {X : gX} {σ : sg} {p1 : Int32} {r0 : (Int32 × sg)} (C : gC X cX9_executeBlock 8 RX9 (some .int) rm_X9_executeBlock)  (hQ : gQ X (qI (XG X) r0.1 r0.2)) (hf : f_X9_executeBlock σ p1 = some r0) : G X 8 σ 0 [(0, .ref (Xd X 157)), (1, .int p1)] [] := by
  unfold f_X9_executeBlock at hf
  refine g_aload_n C 0 dX9_executeBlock_0 rfl ?_
  refine g_getr C 9 6 (612) (by decide) sh_157 rfl vc_9 (by decide) inXX9 wfl_667 dX9_executeBlock_1 ?_
  refine g_iload_n C 1 dX9_executeBlock_4 rfl ?_
  obtain ⟨v5, h1, hf⟩ := g_bind hf
  refine g_iald C h1 dX9_executeBlock_5 ?_
  clear h1
  refine g_istore_n C (lv' := [(2, .int v5), (0, .ref (Xd X 157)), (1, .int p1)]) dX9_executeBlock_6 (by decide) rfl ?_
  refine g_aload_n C 1 dX9_executeBlock_7 rfl ?_
  refine g_getr C 9 6 (612) (by decide) sh_157 rfl vc_9 (by decide) inXX9 wfl_667 dX9_executeBlock_8 ?_
  refine g_iload_n C 2 dX9_executeBlock_11 rfl ?_
  refine g_iconst C (v := 1) dX9_executeBlock_12 rfl ?_
  refine g_iadd C dX9_executeBlock_13 ?_
  obtain ⟨v14, h1, hf⟩ := g_bind hf
  refine g_iald C h1 dX9_executeBlock_14 ?_
  clear h1
  refine g_istore_n C (lv' := [(3, .int v14), (2, .int v5), (0, .ref (Xd X 157)), (1, .int p1)]) dX9_executeBlock_15 (by decide) rfl ?_
  refine g_iload_n C 0 dX9_executeBlock_16 rfl ?_
  refine g_istore C (lv' := [(4, .int v14), (3, .int v14), (2, .int v5), (0, .ref (Xd X 157)), (1, .int p1)]) dX9_executeBlock_17 (by decide) rfl ?_
  refine g_aload_n C 3 dX9_executeBlock_19 rfl ?_
  refine g_iload_n C 4 dX9_executeBlock_20 rfl ?_
  obtain ⟨v21, h1, hf⟩ := g_bind hf
  refine g_callVi C 1 [.int p1] (c_X9_cyclesOf (Xl X) (gC_I C)  h1) ⟨wml_934, wim_936, wsp_30, win_10, wcd_937⟩ (by decide) sh_157 vc_9 rfl hd_X9_cyclesOf ⟨rfl, rfl⟩ ⟨Nat.le_of_ble_eq_true rfl, Nat.le_of_ble_eq_true rfl⟩ rfl rfl (Nat.le_of_ble_eq_true rfl) dX9_executeBlock_21 ?_
  clear h1
  refine g_istore C (lv' := [(5, .int v21), (4, .int v14), (3, .int v14), (2, .int v5), (0, .ref (Xd X 157)), (1, .int p1)]) dX9_executeBlock_24 (by decide) rfl ?_
  refine g_iconst C (v := 0) dX9_executeBlock_26 rfl ?_
  refine g_istore C (lv' := [(6, .int (0 : Int32)), (5, .int v21), (4, .int v14), (3, .int v14), (2, .int v5), (0, .ref (Xd X 157)), (1, .int p1)]) dX9_executeBlock_27 (by decide) rfl ?_
  refine g_sub [5, 4, 3, 2, 1, 0] rfl ?_
  exact wl_X9_executeBlock_29 (a := (v14, (0 : Int32), σ)) C  hQ  hf
theorem c_X9_executeBlock (l : Launch) {Gw : gW} (hI : g_I Gw) {σ : sg} {p1 : Int32} {r : (Int32 × sg)}  (hf : f_X9_executeBlock σ p1 = some r) : gM l Gw yX9_executeBlock cX9_executeBlock 8 (some .int) rm_X9_executeBlock [.ref (Gw.2.2 157), .int p1] σ (qI (Gw) r.1 r.2) := by
  refine g_met hI (by decide) (Nat.le_of_ble_eq_true rfl) (fun X h1 h2 C hQ => ?_)
  subst h1; subst h2
  exact w_X9_executeBlock_e C  hQ hf
