/-! THE LAW'S START: the classes' numbers, the two objects are made, then the loop -/
theorem k_cls {s : State} {args : Array Value} (hts : ∀ w ∈ gB, w.before args s = true) : ∀ ci : Nat, ∃ (cC : ClassId) (iS : Nat → Nat), ∀ q : vw_C, vwCl[ci]? = some q → u_Kn s q.1 q.2.1 q.2.2 cC iS
  | 0 => by
    obtain ⟨c, i, h⟩ := u_known (C := RX0) (T := TX0) (N := 5) (n := 5) hts inXX0 (hts _ wis_238)
    exact ⟨c, i, fun q hq => by cases hq; exact h⟩
  | 1 => by
    obtain ⟨c, i, h⟩ := u_known (C := RX1) (T := TX1) (N := 5) (n := 5) hts inXX1 (hts _ wis_69)
    exact ⟨c, i, fun q hq => by cases hq; exact h⟩
  | 2 => by
    obtain ⟨c, i, h⟩ := u_known (C := RX2) (T := TX2) (N := 8) (n := 8) hts inXX2 (hts _ wis_121)
    exact ⟨c, i, fun q hq => by cases hq; exact h⟩
  | 3 => by
    obtain ⟨c, i, h⟩ := u_known (C := RX3) (T := TX3) (N := 5) (n := 5) hts inXX3 (hts _ wis_45)
    exact ⟨c, i, fun q hq => by cases hq; exact h⟩
  | 4 => by
    obtain ⟨c, i, h⟩ := u_known (C := RX4) (T := TX4) (N := 2) (n := 2) hts inXX4 (hts _ wis_223)
    exact ⟨c, i, fun q hq => by cases hq; exact h⟩
  | 5 => by
    obtain ⟨c, i, h⟩ := u_known (C := RX5) (T := TX5) (N := 13) (n := 13) hts inXX5 (hts _ wis_162)
    exact ⟨c, i, fun q hq => by cases hq; exact h⟩
  | 6 => by
    obtain ⟨c, i, h⟩ := u_known (C := RX6) (T := TX6) (N := 2) (n := 2) hts inXX6 (hts _ wis_23)
    exact ⟨c, i, fun q hq => by cases hq; exact h⟩
  | 7 => by
    obtain ⟨c, i, h⟩ := u_known (C := RX7) (T := TX7) (N := 3) (n := 3) hts inXX7 (hts _ wis_99)
    exact ⟨c, i, fun q hq => by cases hq; exact h⟩
  | 8 => by
    obtain ⟨c, i, h⟩ := u_known (C := RX8) (T := TX8) (N := 10) (n := 10) hts inXX8 (hts _ wis_15)
    exact ⟨c, i, fun q hq => by cases hq; exact h⟩
  | 9 => by
    obtain ⟨c, i, h⟩ := u_known (C := RX9) (T := TX9) (N := 34) (n := 34) hts inXX9 (hts _ wis_653)
    exact ⟨c, i, fun q hq => by cases hq; exact h⟩
  | n + 10 => ⟨0, fun _ => 0, fun q hq => by
    have h := (List.getElem?_eq_some_iff.mp hq).1
    have h2 : vwCl.length = 10 := rfl
    omega⟩
theorem k_ids {s : State} {args : Array Value} (hts : ∀ w ∈ lw_tbl, w.before args s = true) : ∃ cl : Nat → ClassId, (∀ (k : Nat) (q : ClassId × FieldType), ([(cl 0, .int), (cl 1, .boolean), (cl 2, .array .int), (cl 3, .array (.array .int))] : List (ClassId × FieldType))[k]? = some q → ArrOfT s q.1 q.2 ∧ va_RA s q.1 q.2) ∧ (∃ k : Class, s.vm.classes[cl 2]? = some k ∧ k.kind = .array (cl 0) (.array .int)) ∧ ∃ k : Class, s.vm.classes[cl 3]? = some k ∧ k.kind = .array (cl 2) (.array (.array .int)) := by
  obtain ⟨c0, k0, p0, f0, h0, g0⟩ := Cond.arrayClass_spec (hts (Cond.arrayClass .int) (List.mem_of_getElem? (i := 84) (by decide +kernel)))
  obtain ⟨c1, k1, p1, f1, h1, g1⟩ := Cond.arrayClass_spec (hts (Cond.arrayClass .boolean) (List.mem_of_getElem? (i := 138) (by decide +kernel)))
  obtain ⟨p2, c2, k2, q2, h2, g2, f2⟩ := Cond.arrayOver_specA (hts (Cond.arrayOver (.array .int)) (List.mem_of_getElem? (i := 70) (by decide +kernel)))
  obtain ⟨p3, c3, k3, q3, h3, g3, f3⟩ := Cond.arrayOver_specA (hts (Cond.arrayOver (.array (.array .int))) (List.mem_of_getElem? (i := 701) (by decide +kernel)))
  have e2 : p2 = c0 := Option.some.inj (q2.symm.trans f0)
  have e3 : p3 = c2 := Option.some.inj (q3.symm.trans f2)
  subst e2; subst e3
  refine ⟨fun t => if t = 0 then p2 else if t = 1 then c1 else if t = 2 then p3 else c3, fun k q hk => ?_, ⟨k2, h2, g2⟩, k3, h3, g3⟩
  have arr : ∀ {cA : ClassId} {kA : Class} {cp : ClassId} {ty : FieldType}, s.vm.classes[cA]? = some kA → kA.kind = .array cp ty → ArrOfT s cA ty := fun {cA kA cp ty} a b n z => ⟨fun k h => (by cases h), kA, a, cp, b⟩
  have hk4 : k < 4 := (List.getElem?_eq_some_iff.mp hk).1
  match k, hk4, hk with
  | 0, _, hk => cases hk; exact ⟨arr h0 g0, f0⟩
  | 1, _, hk => cases hk; exact ⟨arr h1 g1, f1⟩
  | 2, _, hk => cases hk; exact ⟨arr h2 g2, f2⟩
  | 3, _, hk => cases hk; exact ⟨arr h3 g3, f3⟩
theorem k_world {s : State} {args : Array Value} (hts : ∀ w ∈ lw_tbl, w.before args s = true) : ∃ Gw : gW, (∀ r : Nat, Gw.2.2 r = s.heap.size + r) ∧ va_K Gw.1 vwCl (g_tys Gw) s ∧ kO Gw s := by
  have hB : ∀ w ∈ gB, w.before args s = true := fun w hw => hts w (List.mem_filter.mp hw).1
  obtain ⟨cl, hK, hO⟩ := k_ids hts
  refine ⟨((fun ci => Classical.choose (k_cls hB ci), fun ci => Classical.choose (Classical.choose_spec (k_cls hB ci))), cl, fun r => s.heap.size + r), fun _ => rfl, ⟨fun c q hq => Classical.choose_spec (Classical.choose_spec (k_cls hB c)) q hq, hK⟩, hO⟩
theorem k_nest {s : State} {args : Array Value} (hts : ∀ w ∈ lw_tbl, w.before args s = true) : g_N s := fun w hw => by
  obtain ⟨h1, h2⟩ := List.mem_filter.mp hw
  have h := hts w h1
  cases w <;> first | (cases h2; done) | exact va_Nw.of rfl h
theorem kx_at {Gw : gW} {H : Heap} (h : kx Gw (kT Gw) 737 H) : g_at Gw g_s0 H := fun k q hk => by
  have hk1 : k < 737 := by
    have := (List.getElem?_eq_some_iff.mp hk).1
    rwa [g_ws_len] at this
  rw [g_ws_at _ _ hk1] at hk
  cases hk
  exact h.2 k hk1
/-- from the place behind the two constructors -/
theorem k_loop {X : gX} (C : kC X cL_law 4 RL room_1) (hret : (Xt X).sig.returnType = some .boolean) (hlocks : (Xt X).locks = false) {sb L : Nat} {xs : Nat → Int32} (hL : L ≤ 3072) (hscr : va_X sb L xs (Xs X) (Xs X).heap ∧ sb < (Xs X).heap.size ∧ ¬ XA X sb) {mc ms : Nat} (hmc : mc ≤ room_1.cells ∧ ms ≤ room_1.slots)
    (hfin : ∀ (H : Heap) (locs : List Loc) (ls : Array Slot) (pc : Nat), va_S (XA X) (Xs X).heap H locs → decode code pc = .ok (.ireturn, 1) → W (Xp X) (Xl X) (Xe X) (XR X) (Xs X) (Xm X) (Xa X) (Xb X) (Xt X) (Xc X) H locs mc ms (XQ X) (F0 (Xm X) pc ls [.int 1])) : KK X 4 (kT (XG X)) 737 mc ms 18 [(3, .int 0), (2, .ref (Xd X 157)), (1, .ref (Xd X 0)), (0, .ref sb)] [] := by
  obtain ⟨p, l, e, R, s, m, a, b, t, c, k, Q, Gw, A⟩ := X
  obtain ⟨c1, c2, c3, c4, c5, c6, c7, c8, c9, c10, c11⟩ := C
  intro H locs ls hP hS hl
  have hI : g_I Gw := fun i j _ _ h => by
    rw [c7 i, c7 j] at h
    omega
  have C' : gC (p, l, e, R, s, m, a, b, t, c, (mc, ms), Q, Gw, A) cL_law 4 RL (some .boolean) room_1 := ⟨c1, c2, c3, c4, c5, hlocks, c6, hI, fun r _ => c8 _ (by show Gw.2.2 0 ≤ Gw.2.2 r; rw [show Gw.2.2 r = Gw.2.2 0 + r from c7 r]; omega), by rw [show XR (p, l, e, R, s, m, a, b, t, c, (mc, ms), Q, Gw, A) = room_1 from c10]; exact hmc, hret, c9, c10⟩
  have hQ : lawQ (p, l, e, R, s, m, a, b, t, c, (mc, ms), Q, Gw, A) sb L xs 1 := ⟨hscr, fun σ pc lv hdg H locs ls _ hS _ => hfin H locs ls pc hS hdg, rfl⟩
  have h18 := wl_L_law_18 C' hQ (law_1 (L := L) (xs := xs) hL)
  exact h18 H locs ls (kx_at hP) hS ⟨hl.1, hl.2.1, fun q hq => hl.2.2 q (List.mem_reverse.mp hq)⟩
theorem k_law {X : gX} (C : kC X cL_law 4 RL room_1) (hret : (Xt X).sig.returnType = some .boolean) (hlocks : (Xt X).locks = false) {sb L : Nat} {xs : Nat → Int32} (hL : L ≤ 3072) (hscr : va_X sb L xs (Xs X) (Xs X).heap ∧ sb < (Xs X).heap.size ∧ ¬ XA X sb)
    (hfin : ∀ (mc ms : Nat) (H : Heap) (locs : List Loc) (ls : Array Slot) (pc : Nat), mc ≤ room_1.cells ∧ ms ≤ room_1.slots → va_S (XA X) (Xs X).heap H locs → decode code pc = .ok (.ireturn, 1) → W (Xp X) (Xl X) (Xe X) (XR X) (Xs X) (Xm X) (Xa X) (Xb X) (Xt X) (Xc X) H locs mc ms (XQ X) (F0 (Xm X) pc ls [.int 1])) : KK X 4 (kT (XG X)) 0 0 0 0 [(0, .ref sb)] [] := by
  refine k_new C 8 (fs := [.null, .null, .null, .null, .null, .null, .null, .null, .null, .null]) vc_8 tyX8 tyX8_ok inXX8 wcl_14 wis_15 win_1 (fun j hj => match j, hj with | 0, _ => rfl | 1, _ => rfl | 2, _ => rfl | 3, _ => rfl | 4, _ => rfl | 5, _ => rfl | 6, _ => rfl | 7, _ => rfl | 8, _ => rfl | 9, _ => rfl | _ + 10, h => absurd h (by omega)) dL_law_0 ⟨by decide +kernel, by decide +kernel⟩ ?_
  refine k_dup C dL_law_3 ?_
  refine k_callI C 0 [] (kc_X8_0 C.2.2.2.2.2.2.1 (fun q _ _ => rfl)) wml_16 wim_17 win_1 wcd_18 rfl hdk_X8 ⟨Nat.le_of_ble_eq_true rfl, Nat.le_of_ble_eq_true rfl⟩ ⟨by decide +kernel, by decide +kernel⟩ rfl rfl (Nat.le_of_ble_eq_true rfl) dL_law_4 ?_
  refine k_ext (k_fold rfl) ?_
  refine k_astore_n C dL_law_7 (by decide) rfl ?_
  refine k_new C 9 (fs := [.int 0, .null, .null, .null, .int 0, .null, .null, .int 0, .int 0, .null, .null, .null, .null, .int 0, .int 0, .int 0, .int 0, .int 0, .null, .null, .null, .null, .int 0, .null, .null, .int 0, .null, .null, .null, .int 0, .null, .null, .null, .int 0]) vc_9 tyX9 tyX9_ok inXX9 wcl_652 wis_653 win_10 (fun j hj => match j, hj with | 0, _ => rfl | 1, _ => rfl | 2, _ => rfl | 3, _ => rfl | 4, _ => rfl | 5, _ => rfl | 6, _ => rfl | 7, _ => rfl | 8, _ => rfl | 9, _ => rfl | 10, _ => rfl | 11, _ => rfl | 12, _ => rfl | 13, _ => rfl | 14, _ => rfl | 15, _ => rfl | 16, _ => rfl | 17, _ => rfl | 18, _ => rfl | 19, _ => rfl | 20, _ => rfl | 21, _ => rfl | 22, _ => rfl | 23, _ => rfl | 24, _ => rfl | 25, _ => rfl | 26, _ => rfl | 27, _ => rfl | 28, _ => rfl | 29, _ => rfl | 30, _ => rfl | 31, _ => rfl | 32, _ => rfl | 33, _ => rfl | _ + 34, h => absurd h (by omega)) dL_law_8 ⟨by decide +kernel, by decide +kernel⟩ ?_
  refine k_dup C dL_law_11 ?_
  refine k_callI C 0 [] (kc_X9_157 C.2.2.2.2.2.2.1 (fun q _ _ => rfl)) wml_654 wim_655 win_10 wcd_656 rfl hdk_X9 ⟨Nat.le_of_ble_eq_true rfl, Nat.le_of_ble_eq_true rfl⟩ ⟨by decide +kernel, by decide +kernel⟩ rfl rfl (Nat.le_of_ble_eq_true rfl) dL_law_12 ?_
  refine k_ext (k_fold rfl) ?_
  refine k_astore_n C dL_law_15 (by decide) rfl ?_
  refine k_iconst (v := 0) C dL_law_16 (by decide) ?_
  refine k_istore_n C dL_law_17 (by decide) rfl ?_
  exact k_loop C hret hlocks hL hscr (by decide +kernel) (fun H locs ls pc hS hdg => hfin _ _ H locs ls pc (by decide +kernel) hS hdg)
