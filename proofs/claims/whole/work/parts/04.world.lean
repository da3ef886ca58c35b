/-! THE WORLD: all cells of the class and of the reference by their numbers (regions); which cell holds which reference never changes, so a state is what the int places hold -/
/-- a state: region, place, value -/
abbrev sg : Type := Nat → Nat → Int32
def up (σ : sg) (r k : Nat) (v : Int32) : sg := fun r' k' => if r' = r ∧ k' = k then v else σ r' k'
theorem up_same (σ : sg) (r k : Nat) (v : Int32) : up σ r k v r k = v := by simp [up]
theorem up_ne (σ : sg) {r k r' k' : Nat} (v : Int32) (h : ¬ (r' = r ∧ k' = k)) : up σ r k v r' k' = σ r' k' := by simp [up, h]
/-- the classes' numbers and slots; the numbers of the array classes; the addresses -/
abbrev gW : Type := va_G × (Nat → ClassId) × (Nat → Nat)
/-- the regions, numbered as they are made: an object (its class, its fields: a region or an int), or an array (its class, its length, for references the first of the regions it holds) -/
abbrev gSh : Type := (Nat × List (Option Nat)) ⊕ (Nat × Nat × Option Nat)
def g_t1 : List gSh := [.inl (8, [some 1, some 43, some 57, some 61, some 72, some 75, some 145, some 148, some 151, some 154]), .inl (6, [some 2, none]), .inr (2, 40, some 3)]
def g_t2 : List gSh := [.inl (3, [some 44, some 45, some 46, none, none]), .inr (0, 10, none), .inr (0, 10, none), .inr (2, 10, some 47)]
def g_t3 : List gSh := [.inl (1, [some 58, some 59, some 60, none, none]), .inr (0, 41, none), .inr (0, 40, none), .inr (1, 40, none), .inl (7, [some 62, some 71, none]), .inr (2, 8, some 63)]
def g_t4 : List gSh := [.inr (0, 8, none), .inl (2, [some 1, some 61, some 73, some 74, none, none, none, none]), .inr (0, 40, none), .inr (0, 3, none), .inl (5, [some 1, some 76, some 137, some 138, some 139, some 140, some 141, some 142, some 143, some 144, none, none, none]), .inr (2, 60, some 77)]
def g_t5 : List gSh := [.inr (0, 60, none), .inr (0, 60, none), .inr (0, 40, none), .inr (0, 40, none), .inr (0, 40, none), .inr (0, 40, none), .inr (0, 40, none), .inr (0, 100, none), .inl (4, [some 146, some 147]), .inr (0, 8, none), .inr (0, 16, none), .inl (4, [some 149, some 150]), .inr (0, 8, none), .inr (0, 16, none), .inl (4, [some 152, some 153]), .inr (0, 8, none), .inr (0, 16, none), .inl (0, [some 1, some 57, some 75, some 155, some 156]), .inr (0, 40, none), .inr (0, 40, none)]
def g_t6 : List gSh := [.inl (9, [none, some 158, some 199, some 610, none, some 611, some 612, none, none, some 613, some 622, some 623, some 624, none, none, none, none, none, some 625, some 686, some 727, some 728, none, some 729, some 730, none, some 731, some 732, some 733, none, some 734, some 735, some 736, none]), .inr (2, 40, some 159)]
def g_t7 : List gSh := [.inr (0, 10, none), .inr (0, 40, none), .inr (0, 41, none), .inr (2, 8, some 614)]
def g_t8 : List gSh := [.inr (0, 8, none), .inr (0, 40, none), .inr (0, 3, none), .inr (2, 60, some 626)]
def g_t9 : List gSh := [.inr (0, 60, none), .inr (0, 60, none), .inr (0, 280, none), .inr (0, 40, none), .inr (0, 24, none), .inr (0, 24, none), .inr (0, 24, none), .inr (0, 40, none), .inr (0, 40, none), .inr (0, 40, none)]
def g_no : gSh := .inr (9, 0, none)
def g_r3 : gSh := .inr (0, 3, none)
def g_r4 : gSh := .inr (0, 4, none)
def g_sh1 (r : Nat) : gSh := if r < 3 then g_t1.getD r g_no else if r < 43 then g_r4 else if r < 47 then g_t2.getD (r - 43) g_no else if r < 57 then g_r4 else if r < 63 then g_t3.getD (r - 57) g_no else if r < 71 then g_r3 else if r < 77 then g_t4.getD (r - 71) g_no else if r < 137 then g_r3 else g_t5.getD (r - 137) g_no
def g_sh2 (r : Nat) : gSh := if r < 159 then g_t6.getD (r - 157) g_no else if r < 199 then g_r4 else if r < 200 then .inr (3, 10, some 200) else if r < 610 then (if (r - 200) % 41 = 0 then .inr (2, 40, some (r + 1)) else g_r4) else if r < 614 then g_t7.getD (r - 610) g_no else if r < 622 then g_r3 else if r < 626 then g_t8.getD (r - 622) g_no else if r < 686 then g_r3 else if r < 687 then .inr (2, 40, some 687) else if r < 727 then g_r3 else g_t9.getD (r - 727) g_no
def g_sh (r : Nat) : gSh := if r < 157 then g_sh1 r else if r < 737 then g_sh2 r else g_no
/-- how the regions lie that an array of references holds: one behind another, or (arrays of arrays of arrays) 41 apart -/
def g_ch (t k : Nat) : Nat := if t = 3 then 41 * k else k
def g_fv (ad : Nat → Nat) (f : Nat → Int32) : Nat → List (Option Nat) → List Value
  | _, [] => []
  | k, none :: t => .int (f k) :: g_fv ad f (k + 1) t
  | k, some q :: t => .ref (ad q) :: g_fv ad f (k + 1) t
def g_el (G : gW) (σ : sg) (r : Nat) : va_E := match g_sh r with
  | .inl (ci, fl) => .inr (ci, g_fv G.2.2 (σ r) 0 fl)
  | .inr (t, n, none) => .inl (G.2.1 t, n, .inl (σ r))
  | .inr (t, n, some b) => .inl (G.2.1 t, n, .inr (.inr (.inr (.inr (fun k => if k < n then some (G.2.2 (b + g_ch t k)) else none)))))
def g_ws (G : gW) (σ : sg) : va_W := (List.range 737).map (fun r => (G.2.2 r, g_el G σ r))
def g_tys (G : gW) : List (ClassId × FieldType) := [(G.2.1 0, .int), (G.2.1 1, .boolean), (G.2.1 2, .array .int), (G.2.1 3, .array (.array .int))]
def g_I (G : gW) : Prop := ∀ i j : Nat, i < 737 → j < 737 → G.2.2 i = G.2.2 j → i = j
def g_A (G : gW) : Nat → Prop := fun q => ∃ r : Nat, r < 737 ∧ q = G.2.2 r
theorem g_ws_at (G : gW) (σ : sg) {r : Nat} (h : r < 737) : (g_ws G σ)[r]? = some (G.2.2 r, g_el G σ r) := by
  unfold g_ws
  rw [List.getElem?_map, List.getElem?_range h]
  rfl
theorem g_ws_len (G : gW) (σ : sg) : (g_ws G σ).length = 737 := by simp [g_ws]
theorem g_ws_D {G : gW} {A : Nat → Prop} (hI : g_I G) (hA : ∀ r : Nat, r < 737 → A (G.2.2 r)) (σ : sg) : va_D A (g_ws G σ) := by
  have hb : ∀ (i : Nat) (p : Nat × va_E), (g_ws G σ)[i]? = some p → i < 737 ∧ p.1 = G.2.2 i := fun i p h => by
    have h1 : i < 737 := by
      have := (List.getElem?_eq_some_iff.mp h).1
      rwa [g_ws_len] at this
    rw [g_ws_at G σ h1] at h
    cases h
    exact ⟨h1, rfl⟩
  refine ⟨fun i j p q hi hj e => ?_, fun k q hk => ?_⟩
  · obtain ⟨i1, i2⟩ := hb i p hi
    obtain ⟨j1, j2⟩ := hb j q hj
    exact hI i j i1 j1 (by rw [← i2, ← j2]; exact e)
  · obtain ⟨k1, k2⟩ := hb k q hk
    rw [k2]
    exact hA k k1
theorem g_ws_set (G : gW) {σ σ' : sg} {r : Nat} {e : va_E} (h : r < 737) (hr : g_el G σ' r = e) (ho : ∀ q : Nat, q ≠ r → g_el G σ' q = g_el G σ q) : (g_ws G σ).set r (G.2.2 r, e) = g_ws G σ' := by
  refine List.ext_getElem? fun k => ?_
  by_cases hk : k < 737
  · rw [g_ws_at G σ' hk, List.getElem?_set]
    by_cases e1 : r = k
    · subst e1
      rw [if_pos rfl, if_pos (by rw [g_ws_len]; exact h), hr]
    · rw [if_neg e1, g_ws_at G σ hk, ho k (fun q => e1 q.symm)]
  · rw [List.getElem?_eq_none (by rw [List.length_set, g_ws_len]; omega), List.getElem?_eq_none (by rw [g_ws_len]; omega)]
theorem g_el_congr (G : gW) {σ σ' : sg} {r : Nat} (h : σ r = σ' r) : g_el G σ r = g_el G σ' r := by
  unfold g_el
  rw [h]
theorem up_row {σ : sg} {r k : Nat} {v : Int32} {q : Nat} (h : q ≠ r) : up σ r k v q = σ q := by
  funext k'
  simp [up, h]
theorem up_upd (σ : sg) (r k : Nat) (v : Int32) : up σ r k v r = upd (σ r) k v := by
  funext k'
  by_cases h : k' = k <;> simp [up, upd, h]
theorem g_fv_up (ad : Nat → Nat) (f : Nat → Int32) (v : Int32) : ∀ (fl : List (Option Nat)) (k o : Nat), fl[k]? = some none → g_fv ad (upd f (o + k) v) o fl = (g_fv ad f o fl).set k (.int v) := by
  have tl : ∀ (fl : List (Option Nat)) (n o : Nat), n < o → g_fv ad (upd f n v) o fl = g_fv ad f o fl := by
    intro fl
    induction fl with
    | nil => intro n o _; rfl
    | cons a t ih =>
      intro n o h
      cases a with
      | none =>
        show Value.int (upd f n v o) :: _ = _
        rw [ih n (o + 1) (by omega)]
        simp [g_fv, upd, show ¬ o = n by omega]
      | some q =>
        show Value.ref (ad q) :: _ = _
        rw [ih n (o + 1) (by omega)]
        rfl
  intro fl
  induction fl with
  | nil => intro k o h; cases h
  | cons a t ih =>
    intro k o h
    cases k with
    | zero =>
      cases h
      show Value.int (upd f o v o) :: g_fv ad (upd f o v) (o + 1) t = _
      rw [tl t o (o + 1) (by omega)]
      simp [g_fv, upd]
    | succ k =>
      have h1 := ih k (o + 1) h
      rw [show o + 1 + k = o + (k + 1) by omega] at h1
      cases a with
      | none =>
        show Value.int (upd f (o + (k + 1)) v o) :: g_fv ad (upd f (o + (k + 1)) v) (o + 1) t = _
        rw [h1]
        simp [g_fv, upd]
      | some q =>
        show Value.ref (ad q) :: g_fv ad (upd f (o + (k + 1)) v) (o + 1) t = _
        rw [h1]
        simp [g_fv]
theorem g_fv_int (ad : Nat → Nat) (f : Nat → Int32) : ∀ (fl : List (Option Nat)) (k o : Nat), fl[k]? = some none → (g_fv ad f o fl)[k]? = some (.int (f (o + k))) := by
  intro fl
  induction fl with
  | nil => intro k o h; cases h
  | cons a t ih =>
    intro k o h
    cases k with
    | zero => cases h; rfl
    | succ k =>
      have h1 := ih k (o + 1) h
      rw [show o + 1 + k = o + (k + 1) by omega] at h1
      cases a <;> exact h1
theorem g_fv_ref (ad : Nat → Nat) (f : Nat → Int32) : ∀ (fl : List (Option Nat)) (k o q : Nat), fl[k]? = some (some q) → (g_fv ad f o fl)[k]? = some (.ref (ad q)) := by
  intro fl
  induction fl with
  | nil => intro k o q h; cases h
  | cons a t ih =>
    intro k o q h
    cases k with
    | zero => cases h; rfl
    | succ k =>
      have h1 := ih k (o + 1) q h
      cases a <;> exact h1
theorem g_fv_len (ad : Nat → Nat) (f : Nat → Int32) : ∀ (fl : List (Option Nat)) (o : Nat), (g_fv ad f o fl).length = fl.length := by
  intro fl
  induction fl with
  | nil => intro o; rfl
  | cons a t ih =>
    intro o
    cases a <;> (show _ + 1 = _ + 1; rw [ih (o + 1)])
/-! the places of arrays, by the machine's own test -/
def ix (i : Int32) (n : Nat) : Option Nat := if i < 0 ∨ n ≤ i.toNatClampNeg then none else some i.toNatClampNeg
def ld (σ : sg) (r : Nat) (i : Int32) : Option Int32 := match g_sh r with
  | .inr (0, n, none) => (ix i n).map (σ r)
  | _ => none
def ldz (σ : sg) (r : Nat) (i : Int32) : Option Int32 := match g_sh r with
  | .inr (1, n, none) => (ix i n).map (σ r)
  | _ => none
def ldr (r : Nat) (i : Int32) : Option Nat := match g_sh r with
  | .inr (2, n, some b) => (ix i n).map (fun k => b + k)
  | .inr (3, n, some b) => (ix i n).map (fun k => b + 41 * k)
  | _ => none
def st (σ : sg) (r : Nat) (i v : Int32) : Option sg := match g_sh r with
  | .inr (0, n, none) => (ix i n).map (fun k => up σ r k v)
  | _ => none
def stz (σ : sg) (r : Nat) (i v : Int32) : Option sg := match g_sh r with
  | .inr (1, n, none) => (ix i n).map (fun k => up σ r k (vp_nar .boolean v))
  | _ => none
def cp (σ : sg) (r : Nat) (i : Int32) (q : Nat) (j n : Int32) : Option sg := match g_sh r, g_sh q with
  | .inr (0, nr, none), .inr (0, nq, none) => if r ≠ q ∧ ¬ i < 0 ∧ ¬ j < 0 ∧ ¬ n < 0 ∧ i.toNatClampNeg + n.toNatClampNeg ≤ nr ∧ j.toNatClampNeg + n.toNatClampNeg ≤ nq then some (fun r' => if r' = q then va_cpy (σ r) (σ q) i.toNatClampNeg j.toNatClampNeg n.toNatClampNeg else σ r') else none
  | _, _ => none
theorem ix_some {i : Int32} {n k : Nat} (h : ix i n = some k) : vp_in i n ∧ k = i.toNatClampNeg := by
  unfold ix at h
  split at h
  · cases h
  · next q => exact ⟨q, (Option.some.inj h).symm⟩
theorem g_sh_lt {r t n : Nat} {o : Option Nat} (h : g_sh r = .inr (t, n, o)) (ht : t < 9) : r < 737 := by
  by_cases q : r < 737
  · exact q
  · unfold g_sh at h
    rw [if_neg (by omega), if_neg q] at h
    cases h
    omega
/-! loops: a step answers the next state or the end -/
def g_loop {α β : Type} (f : α → Option (α ⊕ β)) : Nat → α → Option β
  | 0, _ => none
  | n + 1, a => match f a with
    | none => none
    | some (.inl b) => g_loop f n b
    | some (.inr b) => some b
theorem g_loop_ind {α β : Type} {f : α → Option (α ⊕ β)} {P : α → Prop} {res : β} (step : ∀ (a : α) (r : α ⊕ β), f a = some r → (∀ b, r = .inl b → P b) → (∀ b, r = .inr b → b = res) → P a) : ∀ (n : Nat) (a : α), g_loop f n a = some res → P a := by
  intro n
  induction n with
  | zero => intro a h; cases h
  | succ n ih =>
    intro a h
    unfold g_loop at h
    split at h
    · cases h
    · next b hb => exact step a _ hb (fun b' e => by cases e; exact ih b h) (fun b' e => by cases e)
    · next b hb => exact step a _ hb (fun b' e => by cases e) (fun b' e => by cases e; exact Option.some.inj h)
/-- how many steps a loop is given -/
def gN : Nat := 100000
