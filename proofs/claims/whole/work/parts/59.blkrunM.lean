/-! THE REFERENCE EXECUTES A PACKED BLOCK -/
def awM (P : gP) (s : MS) (b : Nat) (G : Nat → Nat) (τ : sg) (m : Nat) : Prop := τ 734 (b + m) = (if 10 ≤ pop P (b + m) then mI 1 else nI (pwk P s b m)) ∧ τ 735 (b + m) = vk P s b m ∧ τ 736 (b + m) = nI (due P G (b + m))
def grM (G : Nat → Nat) (b L : Nat) (τ : sg) : Prop := ∀ i, b ≤ i → i < b + L → τ (687 + i) 2 = nI (G i) ∧ G i ≤ 180
noncomputable def goV (P : gP) (n : Nat) (s : MS) (b L : Nat) (c : Prop) : Int32 := cif (10 ≤ pop P (b + L - 1) ∧ c) (nI (suc P n (sqN P s b (L - 1)) (b + L - 1))) (nI (b + L))
theorem loop_to {α β : Type} {f : α → Option (α ⊕ β)} (n : Nat) (I : Nat → α → Prop) (h : ∀ (k : Nat) (a : α), k < n → I k a → ∃ a', f a = some (.inl a') ∧ I (k + 1) a') {a : α} (h0 : I 0 a) {fu : Nat} (hf : n < fu) : ∃ (a' : α) (fu' : Nat), I n a' ∧ g_loop f fu a = g_loop f (fu' + 1) a' := by
  have key : ∀ (m k fu : Nat) (a : α), k + m = n → m < fu → I k a → ∃ (a' : α) (fu' : Nat), I n a' ∧ g_loop f fu a = g_loop f (fu' + 1) a' := by
    intro m
    induction m with
    | zero =>
      intro k fu a hk hfu hI
      obtain ⟨f', rfl⟩ : ∃ x, fu = x + 1 := ⟨fu - 1, by omega⟩
      have e : k = n := by omega
      subst e
      exact ⟨a, f', hI, rfl⟩
    | succ m ih =>
      intro k fu a hk hfu hI
      obtain ⟨f', rfl⟩ : ∃ x, fu = x + 1 := ⟨fu - 1, by omega⟩
      obtain ⟨a1, e1, e2⟩ := h k a (by omega) hI
      obtain ⟨a', fu', g1, g2⟩ := ih (k + 1) f' a1 (by omega) (by omega) e2
      refine ⟨a', fu', g1, ?_⟩
      rw [← g2]
      conv => lhs; unfold g_loop
      rw [e1]
  exact key n 0 fu a (by omega) hf h0
theorem loop_fin {α β : Type} {f : α → Option (α ⊕ β)} {a : α} {r : Option β} {fu : Nat} (h : f a = r.bind (fun t => some (Sum.inr t))) : g_loop f (fu + 1) a = r := by
  unfold g_loop
  rw [h]
  cases r with
  | none => rfl
  | some z => rfl
section
variable {σ : sg} {P : gP} {s : MS} {b L n : Nat} {G : Nat → Nat}
theorem x9_del {x4 x5 : Int32} (hV : pVs P) (h40 : b + L ≤ 40) (hB : blkOK P b L G) {g : Nat} (hg : g ≤ 1000) (hm : mR σ (nN P s b G g L)) (ha : ∀ m, m < L → G (b + m) < g → awM P s b G σ m) (hG : grM G b L σ) : ∃ σ', L_X9_executeBlock_39 (nI b) (nI (b + L)) x4 x5 (nI g) gN (nI b, σ) = (L_X9_executeBlock_109 (nI b) (nI (b + L)) x5 (nI g) gN (x4, nI b, σ')) ∧ mR σ' (nN P s b G (g + 1) L) ∧ ∀ r, r ≠ 731 → σ' r = σ r := by
  have key : ∃ (k : Nat) (τ : sg), k = L ∧ (∃ st, mR τ st ∧ dlv P s b L G g (fun m => m < L) st) ∧ (∀ r, r ≠ 731 → τ r = σ r) ∧ L_X9_executeBlock_39 (nI b) (nI (b + L)) x4 x5 (nI g) gN (nI b, σ) = L_X9_executeBlock_109 (nI b) (nI (b + L)) x5 (nI g) gN (x4, nI b, τ) := by
    unfold L_X9_executeBlock_39
    have step : ∀ (k : Nat) (τ : sg), k < L → (∃ st, mR τ st ∧ dlv P s b L G g (fun m => m < k) st) → (∀ r, r ≠ 731 → τ r = σ r) → ∃ τ', B_X9_executeBlock_39 (nI b) (nI (b + L)) x4 x5 (nI g) (nI (b + k)) τ = some (.inl (nI (b + (k + 1)), τ')) ∧ (∃ st, mR τ' st ∧ dlv P s b L G g (fun m => m < k + 1) st) ∧ ∀ r, r ≠ 731 → τ' r = σ r := by
      intro k τ hk hst hfr
      obtain ⟨st, hst, hd⟩ := hst
      obtain ⟨g1, g2⟩ := hG (b + k) (by omega) (by omega)
      have hl := latN_le (pop P (b + k))
      unfold B_X9_executeBlock_39 J_X9_executeBlock_100
      rw [if_neg (show ¬ nI (b + L) ≤ nI (b + k) by rw [nI_lei (by omega) (by omega)]; omega), ldr_686 (by omega), Option.bind_some, l_2, ldw_687 (by omega) (by decide), Option.bind_some, hfr (687 + (b + k)) (by omega), g1]
      have off : due P G (b + k) ≠ g → dlv P s b L G g (fun m => m < k + 1) st := fun h => dlv_c hd (fun m q1 q2 => by
        have : m ≠ k := fun w => h (by rw [← w]; exact q2)
        show m < k ↔ m < k + 1
        omega)
      have hadd : nI (b + k) + (1 : Int32) = nI (b + (k + 1)) := by rw [l_1, nI_add]; rfl
      by_cases c1 : g ≤ G (b + k)
      · rw [if_pos (show nI g ≤ nI (G (b + k)) by rw [nI_lei (by omega) (by omega)]; exact c1), hadd]
        exact ⟨τ, rfl, ⟨st, hst, off (by have := latN_pos (pop P (b + k)); unfold due; omega)⟩, hfr⟩
      rw [if_neg (show ¬ nI g ≤ nI (G (b + k)) by rw [nI_lei (by omega) (by omega)]; exact c1)]
      obtain ⟨a1, a2, a3⟩ := ha k hk (by omega)
      have hdl : due P G (b + k) < 1000 := by unfold due; omega
      rw [ld_736 (by omega), Option.bind_some, hfr 736 (by decide), a3]
      by_cases c2 : due P G (b + k) = g
      · rw [if_pos (show nI (due P G (b + k)) = nI g by rw [c2]), ld_734 (by omega), Option.bind_some, hfr 734 (by decide), a1]
        have on : dlv P s b L G g (fun m => m < k + 1) (wr st (pwk P s b k) (vk P s b k)) := dlv_c (dlv_1 hV h40 hB hk c2 hd) (fun m _ _ => by
          show (m < k ∨ m = k) ↔ m < k + 1
          omega)
        by_cases c3 : 10 ≤ pop P (b + k)
        · rw [if_pos c3, if_pos (show mI 1 < 0 by decide), hadd]
          refine ⟨τ, rfl, ⟨_, fun j hj => ?_, on⟩, hfr⟩
          have e24 : pwk P s b k = 24 := if_pos c3
          show _ = if j = pwk P s b k then _ else st j
          rw [e24, if_neg (by omega)]; exact hst j hj
        · have hp : pwk P s b k < 24 := pw_lt (s := sqN P s b k) (hV (b + k) (by omega)) c3
          rw [if_neg c3, if_neg (show ¬ nI (pwk P s b k) < 0 by rw [l_0, nI_lti (by omega) (by decide)]; omega), Option.bind_some, ld_735 (by omega), Option.bind_some, hfr 735 (by decide), a2, st_731 hp, Option.bind_some, hadd]
          refine ⟨_, rfl, ⟨_, fun j hj => ?_, on⟩, fun r hr => by rw [up_r hr]; exact hfr r hr⟩
          show _ = if j = pwk P s b k then vk P s b k else st j
          by_cases ej : j = pwk P s b k
          · rw [if_pos ej, ej]; exact up_same _ _ _ _
          · rw [if_neg ej]
            refine Eq.trans (up_k ej) (hst j hj)
      · rw [if_neg (show ¬ nI (due P G (b + k)) = nI g by rw [nI_inj (by omega) (by omega)]; exact c2), hadd]
        exact ⟨τ, rfl, ⟨st, hst, off c2⟩, hfr⟩
    obtain ⟨⟨x, τ'⟩, fu', ⟨h1, h2, h3⟩, h4⟩ := loop_to (f := fun a => B_X9_executeBlock_39 (nI b) (nI (b + L)) x4 x5 (nI g) a.1 a.2) L (fun k a => a.1 = nI (b + k) ∧ (∃ st, mR a.2 st ∧ dlv P s b L G g (fun m => m < k) st) ∧ ∀ r, r ≠ 731 → a.2 r = σ r) (fun k a hk hR => by
      obtain ⟨r1, r2, r3⟩ := hR
      obtain ⟨τ', w1, w2, w3⟩ := step k a.2 hk r2 r3
      refine ⟨(nI (b + (k + 1)), τ'), ?_, rfl, w2, w3⟩
      show B_X9_executeBlock_39 (nI b) (nI (b + L)) x4 x5 (nI g) a.1 a.2 = _
      rw [r1]
      exact w1) (a := (nI b, σ)) ⟨rfl, ⟨_, hm, dlv_0 (fun m _ h => absurd h (Nat.not_lt_zero m)) (fun _ _ => rfl)⟩, fun _ _ => rfl⟩ (gN_gt (show L < 100000 by omega))
    refine ⟨L, τ', rfl, h2, h3, ?_⟩
    rw [h4]
    refine loop_fin ?_
    show B_X9_executeBlock_39 (nI b) (nI (b + L)) x4 x5 (nI g) x τ' = _
    have h1' : x = nI (b + L) := h1
    rw [h1']
    unfold B_X9_executeBlock_39
    rw [if_pos (show nI (b + L) ≤ nI (b + L) from by rw [nI_lei (by omega) (by omega)]; exact Nat.le_refl _)]
  obtain ⟨k, τ, _, ⟨st, h1, h2⟩, h3, h4⟩ := key
  have := dlv_N hV h40 hB h2 (fun m q _ => q)
  exact ⟨τ, h4, fun j hj => by rw [h1 j hj, this j hj], h3⟩
theorem x9_rdg {x5 : Int32} (hM : rM σ P) (hV : pVs P) (h40 : b + L ≤ 40) (hL : 0 < L) (hn : σ 157 0 = nI n) (hB : blkOK P b L G) (hx : ∀ i, b ≤ i → i + 1 < b + L → pop P i < 10) {g : Nat} (hg : g ≤ 1000) (hm : mR σ (nN P s b G (g + 1) L)) (ha : ∀ m, m < L → G (b + m) < g → awM P s b G σ m) (hG : grM G b L σ) : ∃ σ', L_X9_executeBlock_109 (nI b) (nI (b + L)) x5 (nI g) gN (goV P n s b L (G (b + L - 1) < g), nI b, σ) = some (.inl (goV P n s b L (G (b + L - 1) < g + 1), nI (g + 1), σ')) ∧ mR σ' (nN P s b G (g + 1) L) ∧ (∀ m, m < L → G (b + m) < g + 1 → awM P s b G σ' m) ∧ ∀ r, r ≠ 734 → r ≠ 735 → r ≠ 736 → σ' r = σ r := by
  unfold L_X9_executeBlock_109
  refine Exists.elim (loop_c3 (F := fun x y τ => B_X9_executeBlock_109 (nI b) (nI (b + L)) x5 (nI g) x y τ) L (fun k x y τ => x = goV P n s b L (G (b + L - 1) < g ∨ (G (b + L - 1) = g ∧ L ≤ k)) ∧ y = nI (b + k) ∧ (∀ m, m < L → (G (b + m) < g ∨ (G (b + m) = g ∧ m < k)) → awM P s b G τ m) ∧ ∀ r, r ≠ 734 → r ≠ 735 → r ≠ 736 → τ r = σ r) (fun z => ∃ σ', z = .inl (goV P n s b L (G (b + L - 1) < g + 1), nI (g + 1), σ') ∧ (∀ m, m < L → G (b + m) < g + 1 → awM P s b G σ' m) ∧ ∀ r, r ≠ 734 → r ≠ 735 → r ≠ 736 → σ' r = σ r) (fun k x y τ hk hR => ?_) (fu := gN) (gN_gt (by omega)) (a := goV P n s b L (G (b + L - 1) < g)) (b := nI b) (c := σ) ⟨?_, rfl, fun m q1 q2 => ha m q1 (q2.elim id (fun w => absurd w.2 (Nat.not_lt_zero m))), fun _ _ _ _ => rfl⟩) (fun z hz => ?_)
  · obtain ⟨rfl, rfl, hak, hfr⟩ := hR
    unfold B_X9_executeBlock_109 J_X9_executeBlock_205 J_X9_executeBlock_207
    by_cases ke : k = L
    · subst ke
      rw [if_pos (show nI (b + k) ≤ nI (b + k) from (nI_lei (by omega) (by omega)).mpr (Nat.le_refl _)), l_1, nI_add]
      refine Or.inr ⟨_, rfl, τ, ?_, fun m q1 q2 => hak m q1 (by omega), hfr⟩
      have e : goV P n s b k (G (b + k - 1) < g ∨ (G (b + k - 1) = g ∧ k ≤ k)) = goV P n s b k (G (b + k - 1) < g + 1) := cif_c ⟨fun q => ⟨q.1, by have := q.2; omega⟩, fun q => ⟨q.1, by have := q.2; omega⟩⟩
      rw [e]
    have hkL : k < L := by omega
    have hi40 : b + k < 40 := by omega
    obtain ⟨g1, g2⟩ := hG (b + k) (by omega) (by omega)
    have hl := latN_le (pop P (b + k))
    have hadd : nI (b + k) + (1 : Int32) = nI (b + (k + 1)) := by rw [l_1, nI_add]; rfl
    rw [if_neg (show ¬ nI (b + L) ≤ nI (b + k) by rw [nI_lei (by omega) (by omega)]; omega), ldr_686 (by omega), Option.bind_some, l_2, ldw_687 hi40 (by decide), Option.bind_some, hfr (687 + (b + k)) (by omega) (by omega) (by omega), g1]
    refine Or.inl ?_
    by_cases eg : G (b + k) = g
    · have hMτ : rM τ P := rM_fr hM (fun r q1 q2 => hfr r (by omega) (by omega) (by omega))
      have hmτ : mR τ (nN P s b G (g + 1) L) := fun j hj => by rw [hfr 731 (by decide) (by decide) (by decide)]; exact hm j hj
      have hall := rd_all (s := s) hV h40 hB hkL
      rw [eg] at hall
      obtain ⟨a1, a2, a3, a4, a5⟩ := hall
      have hv := hV (b + k) hi40
      rw [if_pos (show nI (G (b + k)) = nI g by rw [eg]), x9_plw hMτ hmτ hi40 hv, Option.bind_some, a3, st_734 hi40, Option.bind_some]
      obtain ⟨τ1, hτ1⟩ : ∃ τ1, τ1 = up τ 734 (b + k) (if 10 ≤ pop P (b + k) then mI 1 else nI (pwk P s b k)) := ⟨_, rfl⟩
      have u1 : ∀ r, r ≠ 734 → τ1 r = τ r := fun r hr => by rw [hτ1, up_r hr]
      rw [← hτ1, x9_val (rM_fr hMτ (fun r q1 q2 => u1 r (by omega))) (s := nN P s b G (g + 1) L) (fun j hj => by rw [u1 731 (by decide)]; exact hmτ j hj) hi40 hv, Option.bind_some, a1, st_735 hi40, Option.bind_some]
      obtain ⟨τ2, hτ2⟩ : ∃ τ2, τ2 = up τ1 735 (b + k) (vk P s b k) := ⟨_, rfl⟩
      have u2 : ∀ r, r ≠ 734 → r ≠ 735 → τ2 r = τ r := fun r q1 q2 => by rw [hτ2, up_r q2, u1 r q1]
      rw [← hτ2, x9_lat (rM_fr hMτ (fun r q1 q2 => u2 r (by omega) (by omega))) hi40 hv, Option.bind_some, nI_add, show g + latN (pop P (b + k)) = due P G (b + k) by unfold due; rw [eg], st_736 hi40, Option.bind_some]
      obtain ⟨τ3, hτ3⟩ : ∃ τ3, τ3 = up τ2 736 (b + k) (nI (due P G (b + k))) := ⟨_, rfl⟩
      have u3 : ∀ r, r ≠ 734 → r ≠ 735 → r ≠ 736 → τ3 r = τ r := fun r q1 q2 q3 => by rw [hτ3, up_r q3, u2 r q1 q2]
      have hM3 : rM τ3 P := rM_fr hMτ (fun r q1 q2 => u3 r (by omega) (by omega) (by omega))
      have hm3 : mR τ3 (nN P s b G (g + 1) L) := fun j hj => by rw [u3 731 (by decide) (by decide) (by decide)]; exact hmτ j hj
      have haw : ∀ m, m < L → (G (b + m) < g ∨ (G (b + m) = g ∧ m < k + 1)) → awM P s b G τ3 m := fun m q1 q2 => by
        unfold awM
        by_cases em : m = k
        · subst em
          rw [hτ3, up_same, up_r (by decide), up_r (by decide), hτ2, up_same, up_r (by decide), hτ1, up_same]
          exact ⟨rfl, rfl, rfl⟩
        · rw [hτ3, up_r (by decide), up_r (by decide), up_k (by omega), hτ2, up_r (by decide), up_k (by omega), up_r (by decide), hτ1, up_k (by omega), up_r (by decide), up_r (by decide)]
          exact hak m q1 (q2.elim Or.inl (fun w => Or.inr ⟨w.1, by omega⟩))
      have hfr3 : ∀ r, r ≠ 734 → r ≠ 735 → r ≠ 736 → τ3 r = σ r := fun r q1 q2 q3 => by rw [u3 r q1 q2 q3, hfr r q1 q2 q3]
      rw [← hτ3, x9_exitt hM3 hi40 hv, Option.bind_some, if_tf]
      by_cases c10 : 10 ≤ pop P (b + k)
      · have ek : k = L - 1 := by
          by_cases q : k + 1 < L
          · have := hx (b + k) (by omega) (by omega)
            omega
          · omega
        have hpb := hv.2.2.2.2.2.1
        have hn3 : τ3 157 0 = nI n := by rw [hfr3 157 (by decide) (by decide) (by decide)]; exact hn
        have eb : b + L - 1 = b + k := by omega
        rw [cif_t c10, ldr_158 hi40, Option.bind_some, l_3, ldM hM3 hi40 (by decide), Option.bind_some, hv.2.2.2.2.1, ld_731 (by omega), Option.bind_some, hm3 _ (by omega), x9_beh hM3 hn3 hi40 hv, Option.bind_some, a4]
        refine ⟨_, _, _, rfl, hkL, ?_, hadd, haw, hfr3⟩
        unfold goV
        rw [eb, cif_t ⟨c10, Or.inr ⟨eg, by omega⟩⟩, ek]
      · rw [cif_f c10]
        refine ⟨_, _, _, rfl, hkL, cif_c ⟨fun q => ⟨q.1, q.2.elim Or.inl (fun w => Or.inr ⟨w.1, by omega⟩)⟩, fun q => ⟨q.1, q.2.elim Or.inl (fun w => Or.inr ⟨w.1, ?_⟩)⟩⟩, hadd, haw, hfr3⟩
        by_cases z : L ≤ k
        · exact z
        · have eb : b + L - 1 = b + k := by omega
          have := q.1
          rw [eb] at this
          exact absurd this c10
    · rw [if_neg (show ¬ nI (G (b + k)) = nI g by rw [nI_inj (by omega) (by omega)]; exact eg)]
      refine ⟨_, _, τ, rfl, hkL, cif_c ⟨fun q => ⟨q.1, q.2.elim Or.inl (fun w => Or.inr ⟨w.1, by omega⟩)⟩, fun q => ⟨q.1, q.2.elim Or.inl (fun w => ?_)⟩⟩, hadd, fun m q1 q2 => hak m q1 (q2.elim Or.inl (fun w => Or.inr ⟨w.1, ?_⟩)), hfr⟩
      · by_cases z : L ≤ k
        · exact Or.inr ⟨w.1, z⟩
        · have eb : b + L - 1 = b + k := by omega
          have := w.1
          rw [eb] at this
          exact absurd this eg
      · by_cases em : m = k
        · subst em
          exact absurd w.1 eg
        · omega
  · exact cif_c ⟨fun q => ⟨q.1, Or.inl q.2⟩, fun q => ⟨q.1, q.2.elim id (fun w => by have := w.2; omega)⟩⟩
  · obtain ⟨z1, σ', rfl, z2, z3⟩ := hz
    exact ⟨σ', z1, fun j hj => by rw [z3 731 (by decide) (by decide) (by decide)]; exact hm j hj, z2, z3⟩
end
