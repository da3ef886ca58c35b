/-! SlotBundler$Program.latency -/
def f_X6_latency (σ : sg) (p1 : Int32) : Option Int32 :=
  (ldr 2 p1).bind fun q5 =>
(ld σ q5 (0 : Int32)).bind fun v7 =>
(if v7 = (7 : Int32) then
  some (3 : Int32)
else
  (if v7 = (8 : Int32) then
    some (2 : Int32)
  else
    some (1 : Int32)))
/-! SlotBundler$Packing.due -/
def f_X5_due (σ : sg) (p1 : Int32) : Option Int32 :=
  (ld σ 141 p1).bind fun v5 =>
(f_X6_latency σ p1).bind fun v11 =>
some (v5 + v11)
/-! SlotBundler$Machine.take -/
def f_X4_take (σ : sg) (o : Nat) (p1 : Nat) (p2 : Int32) (p3 : Int32) : Option sg :=
  (ld σ p1 (0 : Int32)).bind fun v2 =>
(if (8 : Int32) < v2 then
  (ld σ p1 (0 : Int32)).bind fun v22 =>
  (if v22 = (9 : Int32) then
    (st σ (o + 2) p2 p3).bind fun s34 =>
    some s34
  else
    some σ)
else
  (ld σ p1 (1 : Int32)).bind fun v14 =>
  (st σ (o + 1) v14 p3).bind fun s16 =>
  some s16)
/-! SlotBundler$BlockRunner.deliver -/
def J_X0_deliver_70 (p1 : Nat) (p2 : Int32) (p4 : Int32) (x5 : Int32) (σ : sg) : Option ((Int32 × sg) ⊕ sg) :=
  some (.inl (x5 + (-1 : Int32), σ))
def B_X0_deliver_5 (p1 : Nat) (p2 : Int32) (p4 : Int32) (x5 : Int32) (σ : sg) : Option ((Int32 × sg) ⊕ sg) :=
  (if x5 < p2 then
  some (.inr σ)
else
  (ld σ 141 x5).bind fun v20 =>
  (if (v20 + (3 : Int32)) < p4 then
    some (.inr σ)
  else
    (f_X5_due σ x5).bind fun v34 =>
    (if v34 = p4 then
      (ldr 2 x5).bind fun q52 =>
      (ld σ 156 x5).bind fun v59 =>
      (ld σ 155 x5).bind fun v66 =>
      (f_X4_take σ p1 q52 v59 v66).bind fun s67 =>
      J_X0_deliver_70 p1 p2 p4 x5 s67
    else
      J_X0_deliver_70 p1 p2 p4 x5 σ)))
def L_X0_deliver_5 (p1 : Nat) (p2 : Int32) (p4 : Int32) (n : Nat) (a : (Int32 × sg)) : Option sg := g_loop (fun a => B_X0_deliver_5 p1 p2 p4 a.1 a.2) n a
def f_X0_deliver (σ : sg) (p1 : Nat) (p2 : Int32) (p3 : Int32) (p4 : Int32) : Option sg :=
  L_X0_deliver_5 p1 p2 p4 gN (p3 - (1 : Int32), σ)
/-! SlotBundler$Machine.cellOf -/
def J_X4_cellOf_21 (σ : sg) (o : Nat) (p1 : Nat) (t0 : Int32) : Option Int32 :=
  (if t0 = 0 then
  some (0 : Int32)
else
  (ld σ p1 (2 : Int32)).bind fun v32 =>
  (ld σ (o + 1) v32).bind fun v33 =>
  some (v33 &&& (15 : Int32)))
def J_X4_cellOf_16 (σ : sg) (o : Nat) (p1 : Nat) : Option Int32 :=
  J_X4_cellOf_21 σ o p1 (1 : Int32)
def f_X4_cellOf (σ : sg) (o : Nat) (p1 : Nat) : Option Int32 :=
  (ld σ p1 (0 : Int32)).bind fun v2 =>
(if v2 = (8 : Int32) then
  J_X4_cellOf_16 σ o p1
else
  (ld σ p1 (0 : Int32)).bind fun v10 =>
  (if v10 = (9 : Int32) then
    J_X4_cellOf_16 σ o p1
  else
    J_X4_cellOf_21 σ o p1 (0 : Int32)))
/-! SlotBundler$Machine.calculated -/
def f_X4_calculated (σ : sg) (p0 : Int32) (p1 : Int32) (p2 : Int32) : Option Int32 :=
  (if p0 = (1 : Int32) then
  some (p1 + p2)
else
  (if p0 = (2 : Int32) then
    some (p1 - p2)
  else
    (if p0 = (3 : Int32) then
      some (p1 &&& p2)
    else
      (if p0 = (4 : Int32) then
        some (p1 ^^^ p2)
      else
        (if p0 = (5 : Int32) then
          some (p1 >>> ((p2 &&& (31 : Int32)) &&& 31))
        else
          (if p0 = (6 : Int32) then
            (if p2 ≤ p1 then
              some (0 : Int32)
            else
              some (1 : Int32))
          else
            some (p1 * p2)))))))
/-! SlotBundler$Machine.resultOf -/
def J_X4_resultOf_94 (σ : sg) (o : Nat) (p1 : Nat) : Option Int32 :=
  (ld σ p1 (0 : Int32)).bind fun v96 =>
(ld σ p1 (2 : Int32)).bind fun v103 =>
(ld σ (o + 1) v103).bind fun v104 =>
(ld σ p1 (3 : Int32)).bind fun v111 =>
(ld σ (o + 1) v111).bind fun v112 =>
(f_X4_calculated σ v96 v104 v112).bind fun v113 =>
some v113
def f_X4_resultOf (σ : sg) (o : Nat) (p1 : Nat) : Option Int32 :=
  (ld σ p1 (0 : Int32)).bind fun v2 =>
(if v2 = (0 : Int32) then
  (ld σ p1 (2 : Int32)).bind fun v70 =>
  some v70
else
  (if v2 = (1 : Int32) then
    J_X4_resultOf_94 σ o p1
  else
    (if v2 = (2 : Int32) then
      J_X4_resultOf_94 σ o p1
    else
      (if v2 = (3 : Int32) then
        J_X4_resultOf_94 σ o p1
      else
        (if v2 = (4 : Int32) then
          J_X4_resultOf_94 σ o p1
        else
          (if v2 = (5 : Int32) then
            J_X4_resultOf_94 σ o p1
          else
            (if v2 = (6 : Int32) then
              J_X4_resultOf_94 σ o p1
            else
              (if v2 = (7 : Int32) then
                J_X4_resultOf_94 σ o p1
              else
                (if v2 = (8 : Int32) then
                  (f_X4_cellOf σ o p1).bind fun v78 =>
                  (ld σ (o + 2) v78).bind fun v81 =>
                  some v81
                else
                  (if v2 = (9 : Int32) then
                    (ld σ p1 (3 : Int32)).bind fun v89 =>
                    (ld σ (o + 1) v89).bind fun v90 =>
                    some v90
                  else
                    (if v2 = (10 : Int32) then
                      some (0 : Int32)
                    else
                      (if v2 = (11 : Int32) then
                        some (0 : Int32)
                      else
                        (if v2 = (12 : Int32) then
                          some (0 : Int32)
                        else
                          J_X4_resultOf_94 σ o p1)))))))))))))
/-! SlotBundler$Machine.successor -/
def f_X4_successor (σ : sg) (o : Nat) (p1 : Nat) (p2 : Int32) : Option Int32 :=
  (ld σ p1 (0 : Int32)).bind fun v2 =>
(if v2 = (10 : Int32) then
  (ld σ p1 (2 : Int32)).bind fun v30 =>
  some v30
else
  (if v2 = (11 : Int32) then
    (ld σ p1 (3 : Int32)).bind fun v38 =>
    (ld σ (o + 1) v38).bind fun v39 =>
    (if v39 = 0 then
      some (p2 + (1 : Int32))
    else
      (ld σ p1 (2 : Int32)).bind fun v45 =>
      some v45)
  else
    (if v2 = (12 : Int32) then
      some (-1 : Int32)
    else
      some (p2 + (1 : Int32)))))
/-! SlotBundler$Program.has -/
def f_X6_has (σ : sg) (p1 : Int32) : Option Int32 :=
  (if p1 < 0 then
  some (0 : Int32)
else
  (if (σ 1 1) ≤ p1 then
    some (0 : Int32)
  else
    some (1 : Int32)))
/-! SlotBundler$BlockRunner.blockAt -/
def f_X0_blockAt (σ : sg) (p1 : Int32) : Option Int32 :=
  (if p1 = (-1 : Int32) then
  some (-1 : Int32)
else
  (f_X6_has σ p1).bind fun v12 =>
  (if v12 = 0 then
    some (σ 57 3)
  else
    (ld σ 59 p1).bind fun v26 =>
    some v26))
/-! SlotBundler$BlockRunner.execute -/
def J_X0_execute_145 (p1 : Nat) (p2 : Int32) (x3 : Int32) (x4 : Int32) (x5 : Int32) (x6 : Int32) (x7 : Int32) (σ : sg) : Option ((Int32 × Int32 × Int32 × sg) ⊕ (Int32 × sg)) :=
  some (.inl (x5, x6, x7 + (1 : Int32), σ))
def B_X0_execute_57 (p1 : Nat) (p2 : Int32) (x3 : Int32) (x4 : Int32) (x7 : Int32) (x5 : Int32) (x6 : Int32) (σ : sg) : Option ((Int32 × Int32 × sg) ⊕ ((Int32 × Int32 × Int32 × sg) ⊕ (Int32 × sg))) :=
  (if x4 ≤ x5 then
  (J_X0_execute_145 p1 p2 x3 x4 x5 x6 x7 σ).bind fun t => some (.inr t)
else
  (ld σ 141 x5).bind fun v73 =>
  (if v73 = x7 then
    (ldr 2 x5).bind fun q95 =>
    (f_X4_resultOf σ p1 q95).bind fun v96 =>
    (st σ 155 x5 v96).bind fun s99 =>
    (ldr 2 x5).bind fun q116 =>
    (f_X4_cellOf s99 p1 q116).bind fun v117 =>
    (st s99 156 x5 v117).bind fun s120 =>
    (ldr 2 x5).bind fun q131 =>
    (f_X4_successor s120 p1 q131 x5).bind fun v134 =>
    some (.inl (x5 + (1 : Int32), v134, s120))
  else
    (J_X0_execute_145 p1 p2 x3 x4 x5 x6 x7 σ).bind fun t => some (.inr t)))
def L_X0_execute_57 (p1 : Nat) (p2 : Int32) (x3 : Int32) (x4 : Int32) (x7 : Int32) (n : Nat) (a : (Int32 × Int32 × sg)) : Option ((Int32 × Int32 × Int32 × sg) ⊕ (Int32 × sg)) := g_loop (fun a => B_X0_execute_57 p1 p2 x3 x4 x7 a.1 a.2.1 a.2.2) n a
def B_X0_execute_33 (p1 : Nat) (p2 : Int32) (x3 : Int32) (x4 : Int32) (x5 : Int32) (x6 : Int32) (x7 : Int32) (σ : sg) : Option ((Int32 × Int32 × Int32 × sg) ⊕ (Int32 × sg)) :=
  (ld σ 142 p2).bind fun v43 =>
(if v43 < x7 then
  (f_X0_blockAt σ x6).bind fun v154 =>
  some (.inr (v154, σ))
else
  (f_X0_deliver σ p1 x3 x5 x7).bind fun s54 =>
  L_X0_execute_57 p1 p2 x3 x4 x7 gN (x5, x6, s54))
def L_X0_execute_33 (p1 : Nat) (p2 : Int32) (x3 : Int32) (x4 : Int32) (n : Nat) (a : (Int32 × Int32 × Int32 × sg)) : Option (Int32 × sg) := g_loop (fun a => B_X0_execute_33 p1 p2 x3 x4 a.1 a.2.1 a.2.2.1 a.2.2.2) n a
def f_X0_execute (σ : sg) (p1 : Nat) (p2 : Int32) : Option (Int32 × sg) :=
  (ld σ 58 p2).bind fun v8 =>
(ld σ 58 (p2 + (1 : Int32))).bind fun v20 =>
L_X0_execute_33 p1 p2 v8 v20 gN (v8, v20, (0 : Int32), σ)
/-! SlotBundler$Blocks.has -/
def f_X1_has (σ : sg) (p1 : Int32) : Option Int32 :=
  (if p1 < 0 then
  some (0 : Int32)
else
  (if (σ 57 3) ≤ p1 then
    some (0 : Int32)
  else
    some (1 : Int32)))
/-! SlotBundler$Program.operationOf -/
def f_X6_operationOf (σ : sg) (p1 : Int32) : Option Int32 :=
  (ldr 2 p1).bind fun q5 =>
(ld σ q5 (0 : Int32)).bind fun v7 =>
some v7
/-! SlotBundler$Program.hasTarget -/
def J_X6_hasTarget_18 (σ : sg) : Option Int32 :=
  some (1 : Int32)
def f_X6_hasTarget (σ : sg) (p1 : Int32) : Option Int32 :=
  (f_X6_operationOf σ p1).bind fun v2 =>
(if v2 = (10 : Int32) then
  J_X6_hasTarget_18 σ
else
  (if v2 = (11 : Int32) then
    J_X6_hasTarget_18 σ
  else
    some (0 : Int32)))
/-! SlotBundler$Program.targetOf -/
def f_X6_targetOf (σ : sg) (p1 : Int32) : Option Int32 :=
  (ldr 2 p1).bind fun q5 =>
(ld σ q5 (2 : Int32)).bind fun v7 =>
some v7
/-! SlotBundler$Blocks.hasAllTargets -/
def J_X1_hasAllTargets_32 (σ : sg) (x1 : Int32) : Option (Int32 ⊕ Int32) :=
  some (.inl (x1 + (1 : Int32)))
def B_X1_hasAllTargets_2 (σ : sg) (x1 : Int32) : Option (Int32 ⊕ Int32) :=
  (if (σ 1 1) ≤ x1 then
  some (.inr (1 : Int32))
else
  (f_X6_hasTarget σ x1).bind fun v12 =>
  (if v12 = 0 then
    J_X1_hasAllTargets_32 σ x1
  else
    (f_X6_targetOf σ x1).bind fun v21 =>
    (f_X6_has σ v21).bind fun v24 =>
    (if v24 = 0 then
      some (.inr (0 : Int32))
    else
      J_X1_hasAllTargets_32 σ x1)))
def L_X1_hasAllTargets_2 (σ : sg) (n : Nat) (a : Int32) : Option Int32 := g_loop (fun a => B_X1_hasAllTargets_2 σ a) n a
def f_X1_hasAllTargets (σ : sg)  : Option Int32 :=
  L_X1_hasAllTargets_2 σ gN (0 : Int32)
/-! SlotBundler$Program.isExit -/
def f_X6_isExit (σ : sg) (p1 : Int32) : Option Int32 :=
  (f_X6_operationOf σ p1).bind fun v2 =>
(if v2 < (10 : Int32) then
  some (0 : Int32)
else
  some (1 : Int32))
/-! SlotBundler$Blocks.markBegins -/
def J_X1_markBegins_70 (x2 : Int32) (σ : sg) : Option ((Int32 × sg) ⊕ sg) :=
  some (.inl (x2 + (1 : Int32), σ))
def B_X1_markBegins_43 (x2 : Int32) (σ : sg) : Option ((Int32 × sg) ⊕ sg) :=
  (if (σ 1 1) ≤ x2 then
  some (.inr σ)
else
  (f_X6_hasTarget σ x2).bind fun v53 =>
  (if v53 = 0 then
    J_X1_markBegins_70 x2 σ
  else
    (f_X6_targetOf σ x2).bind fun v65 =>
    (stz σ 60 v65 (1 : Int32)).bind fun s69 =>
    J_X1_markBegins_70 x2 s69))
def L_X1_markBegins_43  (n : Nat) (a : (Int32 × sg)) : Option sg := g_loop (fun a => B_X1_markBegins_43 a.1 a.2) n a
def J_X1_markBegins_34 (x2 : Int32) (t0 : Int32) (t1 : Int32) (t2 : Nat) (σ : sg) : Option ((Int32 × sg) ⊕ sg) :=
  (stz σ t2 t1 t0).bind fun s34 =>
some (.inl (x2 + (1 : Int32), s34))
def J_X1_markBegins_29 (x2 : Int32) (t0 : Int32) (t1 : Nat) (σ : sg) : Option ((Int32 × sg) ⊕ sg) :=
  J_X1_markBegins_34 x2 (1 : Int32) t0 t1 σ
def B_X1_markBegins_2 (x2 : Int32) (σ : sg) : Option ((Int32 × sg) ⊕ sg) :=
  (if (σ 1 1) ≤ x2 then
  (L_X1_markBegins_43  gN ((0 : Int32), σ)).bind fun t => some (.inr t)
else
  (if x2 = 0 then
    J_X1_markBegins_29 x2 x2 60 σ
  else
    (f_X6_isExit σ (x2 - (1 : Int32))).bind fun v23 =>
    (if v23 = 0 then
      J_X1_markBegins_34 x2 (0 : Int32) x2 60 σ
    else
      J_X1_markBegins_29 x2 x2 60 σ)))
def L_X1_markBegins_2  (n : Nat) (a : (Int32 × sg)) : Option sg := g_loop (fun a => B_X1_markBegins_2 a.1 a.2) n a
def f_X1_markBegins (σ : sg)  : Option sg :=
  L_X1_markBegins_2  gN ((0 : Int32), σ)
/-! SlotBundler$Blocks.numberBlocks -/
def J_X1_numberBlocks_36 (p1 : Int32) (x2 : Int32) (σ : sg) : Option ((Int32 × sg) ⊕ sg) :=
  (st σ 59 x2 ((σ 57 3) - (1 : Int32))).bind fun s47 =>
some (.inl (x2 + (1 : Int32), s47))
def B_X1_numberBlocks_2 (p1 : Int32) (x2 : Int32) (σ : sg) : Option ((Int32 × sg) ⊕ sg) :=
  (if p1 ≤ x2 then
  (st σ 58 (σ 57 3) p1).bind fun s63 =>
  some (.inr s63)
else
  (ldz σ 60 x2).bind fun v12 =>
  (if v12 = 0 then
    J_X1_numberBlocks_36 p1 x2 σ
  else
    (st σ 58 (σ 57 3) x2).bind fun s25 =>
    (some (up s25 57 3 ((s25 57 3) + (1 : Int32)))).bind fun s33 =>
    J_X1_numberBlocks_36 p1 x2 s33))
def L_X1_numberBlocks_2 (p1 : Int32) (n : Nat) (a : (Int32 × sg)) : Option sg := g_loop (fun a => B_X1_numberBlocks_2 p1 a.1 a.2) n a
def f_X1_numberBlocks (σ : sg) (p1 : Int32) : Option sg :=
  L_X1_numberBlocks_2 p1 gN ((0 : Int32), σ)
/-! SlotBundler$Blocks.cut -/
def f_X1_cut (σ : sg)  : Option sg :=
  (some (up σ 57 3 (0 : Int32))).bind fun s2 =>
(f_X1_hasAllTargets s2 ).bind fun v7 =>
(if v7 = 0 ∨ v7 = 1 then
  (some (up s2 57 4 v7)).bind fun s10 =>
  (if (s10 57 4) = 0 then
    some s10
  else
    (f_X1_markBegins s10 ).bind fun s22 =>
    (f_X1_numberBlocks s22 (s22 1 1)).bind fun s30 =>
    some s30)
else none)
/-! SlotBundler$Filler.enter -/
def f_X2_enter (σ : sg) (p1 : Int32) (p2 : Int32) : Option sg :=
  (some (up σ 72 4 p1)).bind fun s2 =>
(some (up s2 72 5 p2)).bind fun s7 =>
some s7
/-! SlotBundler$Templates.fits -/
def J_X7_fits_46 (σ : sg) : Option Int32 :=
  some (1 : Int32)
def f_X7_fits (σ : sg) (p0 : Int32) (p1 : Int32) : Option Int32 :=
  (if p1 = (0 : Int32) then
  (if p0 ≤ (6 : Int32) then
    J_X7_fits_46 σ
  else
    (if p0 = (8 : Int32) then
      J_X7_fits_46 σ
    else
      (if p0 = (9 : Int32) then
        J_X7_fits_46 σ
      else
        some (0 : Int32))))
else
  (if p1 = (1 : Int32) then
    (if (6 : Int32) < p0 then
      some (0 : Int32)
    else
      some (1 : Int32))
  else
    (if p1 = (2 : Int32) then
      (if p0 = (7 : Int32) then
        some (1 : Int32)
      else
        some (0 : Int32))
    else
      (if p0 < (10 : Int32) then
        some (0 : Int32)
      else
        some (1 : Int32)))))
/-! SlotBundler$Program.written -/
def f_X6_written (σ : sg) (p1 : Int32) : Option Int32 :=
  (ldr 2 p1).bind fun q5 =>
(ld σ q5 (0 : Int32)).bind fun v9 =>
(if (8 : Int32) < v9 then
  some (0 : Int32)
else
  (ld σ q5 (1 : Int32)).bind fun v18 =>
  some ((1 : Int32) <<< (v18 &&& 31)))
/-! SlotBundler$Program.read -/
def J_X6_read_90 (σ : sg) (x2 : Nat) : Option Int32 :=
  (ld σ x2 (2 : Int32)).bind fun v93 =>
(ld σ x2 (3 : Int32)).bind fun v98 =>
some (((1 : Int32) <<< (v93 &&& 31)) ||| ((1 : Int32) <<< (v98 &&& 31)))
def f_X6_read (σ : sg) (p1 : Int32) : Option Int32 :=
  (ldr 2 p1).bind fun q5 =>
(ld σ q5 (0 : Int32)).bind fun v9 =>
(if v9 = (0 : Int32) then
  some (0 : Int32)
else
  (if v9 = (1 : Int32) then
    J_X6_read_90 σ q5
  else
    (if v9 = (2 : Int32) then
      J_X6_read_90 σ q5
    else
      (if v9 = (3 : Int32) then
        J_X6_read_90 σ q5
      else
        (if v9 = (4 : Int32) then
          J_X6_read_90 σ q5
        else
          (if v9 = (5 : Int32) then
            J_X6_read_90 σ q5
          else
            (if v9 = (6 : Int32) then
              J_X6_read_90 σ q5
            else
              (if v9 = (7 : Int32) then
                J_X6_read_90 σ q5
              else
                (if v9 = (8 : Int32) then
                  (ld σ q5 (2 : Int32)).bind fun v81 =>
                  some ((1 : Int32) <<< (v81 &&& 31))
                else
                  (if v9 = (9 : Int32) then
                    J_X6_read_90 σ q5
                  else
                    (if v9 = (10 : Int32) then
                      some (0 : Int32)
                    else
                      (if v9 = (11 : Int32) then
                        (ld σ q5 (3 : Int32)).bind fun v87 =>
                        some ((1 : Int32) <<< (v87 &&& 31))
                      else
                        (if v9 = (12 : Int32) then
                          some (0 : Int32)
                        else
                          J_X6_read_90 σ q5)))))))))))))
/-! SlotBundler$Program.gap -/
def J_X6_gap_144 (σ : sg) (x5 : Int32) : Option Int32 :=
  some (imax x5 (0 : Int32))
def J_X6_gap_137 (σ : sg) (x4 : Int32) (x5 : Int32) : Option Int32 :=
  (if x4 < (10 : Int32) then
  some x5
else
  J_X6_gap_144 σ x5)
def J_X6_gap_110 (σ : sg) (p1 : Int32) (p2 : Int32) (x3 : Int32) (x4 : Int32) (x5 : Int32) : Option Int32 :=
  (f_X6_read σ p1).bind fun v112 =>
(f_X6_written σ p2).bind fun v117 =>
(if (v112 &&& v117) = 0 then
  (if x3 = (8 : Int32) then
    (if x4 = (9 : Int32) then
      J_X6_gap_144 σ x5
    else
      J_X6_gap_137 σ x4 x5)
  else
    J_X6_gap_137 σ x4 x5)
else
  J_X6_gap_144 σ x5)
def J_X6_gap_102 (σ : sg) (p1 : Int32) (p2 : Int32) (x3 : Int32) (x4 : Int32) (x5 : Int32) : Option Int32 :=
  J_X6_gap_110 σ p1 p2 x3 x4 (imax x5 (1 : Int32))
def J_X6_gap_82 (σ : sg) (p1 : Int32) (p2 : Int32) (x3 : Int32) (x4 : Int32) (x5 : Int32) : Option Int32 :=
  (if x3 = (9 : Int32) then
  (if x4 = (9 : Int32) then
    J_X6_gap_102 σ p1 p2 x3 x4 x5
  else
    (if x4 = (8 : Int32) then
      J_X6_gap_102 σ p1 p2 x3 x4 x5
    else
      J_X6_gap_110 σ p1 p2 x3 x4 x5))
else
  J_X6_gap_110 σ p1 p2 x3 x4 x5)
def J_X6_gap_44 (σ : sg) (p1 : Int32) (p2 : Int32) (x3 : Int32) (x4 : Int32) (x5 : Int32) : Option Int32 :=
  (f_X6_written σ p1).bind fun v46 =>
(f_X6_written σ p2).bind fun v51 =>
(if (v46 &&& v51) = 0 then
  J_X6_gap_82 σ p1 p2 x3 x4 x5
else
  (f_X6_latency σ p1).bind fun v63 =>
  (f_X6_latency σ p2).bind fun v68 =>
  J_X6_gap_82 σ p1 p2 x3 x4 (imax x5 (imax (1 : Int32) ((v63 - v68) + (1 : Int32)))))
def f_X6_gap (σ : sg) (p1 : Int32) (p2 : Int32) : Option Int32 :=
  (ldr 2 p1).bind fun q5 =>
(ld σ q5 (0 : Int32)).bind fun v7 =>
(ldr 2 p2).bind fun q14 =>
(ld σ q14 (0 : Int32)).bind fun v16 =>
(f_X6_written σ p1).bind fun v25 =>
(f_X6_read σ p2).bind fun v30 =>
(if (v25 &&& v30) = 0 then
  J_X6_gap_44 σ p1 p2 v7 v16 (-4 : Int32)
else
  (f_X6_latency σ p1).bind fun v39 =>
  J_X6_gap_44 σ p1 p2 v7 v16 v39)
/-! SlotBundler$Filler.isReady -/
def J_X2_isReady_66 (σ : sg) (x1 : Int32) : Option (Int32 ⊕ Int32) :=
  some (.inl (x1 + (-1 : Int32)))
def B_X2_isReady_7 (σ : sg) (x1 : Int32) : Option (Int32 ⊕ Int32) :=
  (if x1 < (σ 72 4) then
  some (.inr (1 : Int32))
else
  (ld σ 73 x1).bind fun v20 =>
  (if (v20 + (3 : Int32)) ≤ (σ 72 7) then
    some (.inr (1 : Int32))
  else
    (f_X6_gap σ x1 (σ 72 6)).bind fun v39 =>
    (if v39 = (-4 : Int32) then
      J_X2_isReady_66 σ x1
    else
      (ld σ 73 x1).bind fun v54 =>
      (if (v54 + v39) ≤ (σ 72 7) then
        J_X2_isReady_66 σ x1
      else
        some (.inr (0 : Int32))))))
def L_X2_isReady_7 (σ : sg) (n : Nat) (a : Int32) : Option Int32 := g_loop (fun a => B_X2_isReady_7 σ a) n a
def f_X2_isReady (σ : sg)  : Option Int32 :=
  L_X2_isReady_7 σ gN ((σ 72 6) - (1 : Int32))
/-! SlotBundler$Templates.stopsBehind -/
def f_X7_stopsBehind (σ : sg) (p1 : Int32) (p2 : Int32) : Option Int32 :=
  (ld σ 71 p1).bind fun v5 =>
(if ((v5 >>> (p2 &&& 31)) &&& (1 : Int32)) = 0 then
  some (0 : Int32)
else
  some (1 : Int32))
/-! SlotBundler$Filler.fill -/
def J_X2_fill_132 (p1 : Int32) (x4 : Int32) (σ : sg) : Option ((Int32 × sg) ⊕ sg) :=
  some (.inl (x4 + (1 : Int32), σ))
def J_X2_fill_109 (p1 : Int32) (x4 : Int32) (σ : sg) : Option ((Int32 × sg) ⊕ sg) :=
  (f_X7_stopsBehind σ p1 x4).bind fun v116 =>
(if v116 = 0 then
  J_X2_fill_132 p1 x4 σ
else
  (some (up σ 72 7 ((σ 72 7) + (1 : Int32)))).bind fun s129 =>
  J_X2_fill_132 p1 x4 s129)
def B_X2_fill_13 (p1 : Int32) (x4 : Int32) (σ : sg) : Option ((Int32 × sg) ⊕ sg) :=
  (if (3 : Int32) ≤ x4 then
  some (.inr σ)
else
  (st σ 74 x4 (-4 : Int32)).bind fun s27 =>
  (if (s27 72 5) ≤ (s27 72 6) then
    J_X2_fill_109 p1 x4 s27
  else
    (f_X6_operationOf s27 (s27 72 6)).bind fun v47 =>
    (ldr 62 p1).bind fun q58 =>
    (ld s27 q58 x4).bind fun v61 =>
    (f_X7_fits s27 v47 v61).bind fun v62 =>
    (if v62 = 0 then
      J_X2_fill_109 p1 x4 s27
    else
      (f_X2_isReady s27 ).bind fun v69 =>
      (if v69 = 0 then
        J_X2_fill_109 p1 x4 s27
      else
        (st s27 74 x4 (s27 72 6)).bind fun s85 =>
        (st s85 73 (s85 72 6) (s85 72 7)).bind fun s98 =>
        (some (up s98 72 6 ((s98 72 6) + (1 : Int32)))).bind fun s106 =>
        J_X2_fill_109 p1 x4 s106))))
def L_X2_fill_13 (p1 : Int32) (n : Nat) (a : (Int32 × sg)) : Option sg := g_loop (fun a => B_X2_fill_13 p1 a.1 a.2) n a
def f_X2_fill (σ : sg) (p1 : Int32) (p2 : Int32) (p3 : Int32) : Option sg :=
  (some (up σ 72 6 p2)).bind fun s2 =>
(some (up s2 72 7 p3)).bind fun s7 =>
L_X2_fill_13 p1 gN ((0 : Int32), s7)
/-! java/lang/Integer.bitCount -/
def f_J6_bitCount_0f7a4 (σ : sg) (p0 : Int32) : Option Int32 :=
  some ((((((((p0 - ((ushr p0 (1 : Int32)) &&& (1431655765 : Int32))) &&& (858993459 : Int32)) + ((ushr (p0 - ((ushr p0 (1 : Int32)) &&& (1431655765 : Int32))) (2 : Int32)) &&& (858993459 : Int32))) + (ushr (((p0 - ((ushr p0 (1 : Int32)) &&& (1431655765 : Int32))) &&& (858993459 : Int32)) + ((ushr (p0 - ((ushr p0 (1 : Int32)) &&& (1431655765 : Int32))) (2 : Int32)) &&& (858993459 : Int32))) (4 : Int32))) &&& (252645135 : Int32)) + (ushr (((((p0 - ((ushr p0 (1 : Int32)) &&& (1431655765 : Int32))) &&& (858993459 : Int32)) + ((ushr (p0 - ((ushr p0 (1 : Int32)) &&& (1431655765 : Int32))) (2 : Int32)) &&& (858993459 : Int32))) + (ushr (((p0 - ((ushr p0 (1 : Int32)) &&& (1431655765 : Int32))) &&& (858993459 : Int32)) + ((ushr (p0 - ((ushr p0 (1 : Int32)) &&& (1431655765 : Int32))) (2 : Int32)) &&& (858993459 : Int32))) (4 : Int32))) &&& (252645135 : Int32)) (8 : Int32))) + (ushr ((((((p0 - ((ushr p0 (1 : Int32)) &&& (1431655765 : Int32))) &&& (858993459 : Int32)) + ((ushr (p0 - ((ushr p0 (1 : Int32)) &&& (1431655765 : Int32))) (2 : Int32)) &&& (858993459 : Int32))) + (ushr (((p0 - ((ushr p0 (1 : Int32)) &&& (1431655765 : Int32))) &&& (858993459 : Int32)) + ((ushr (p0 - ((ushr p0 (1 : Int32)) &&& (1431655765 : Int32))) (2 : Int32)) &&& (858993459 : Int32))) (4 : Int32))) &&& (252645135 : Int32)) + (ushr (((((p0 - ((ushr p0 (1 : Int32)) &&& (1431655765 : Int32))) &&& (858993459 : Int32)) + ((ushr (p0 - ((ushr p0 (1 : Int32)) &&& (1431655765 : Int32))) (2 : Int32)) &&& (858993459 : Int32))) + (ushr (((p0 - ((ushr p0 (1 : Int32)) &&& (1431655765 : Int32))) &&& (858993459 : Int32)) + ((ushr (p0 - ((ushr p0 (1 : Int32)) &&& (1431655765 : Int32))) (2 : Int32)) &&& (858993459 : Int32))) (4 : Int32))) &&& (252645135 : Int32)) (8 : Int32))) (16 : Int32))) &&& (63 : Int32))
/-! SlotBundler$Templates.stopCount -/
def f_X7_stopCount (σ : sg) (p1 : Int32) : Option Int32 :=
  (ld σ 71 p1).bind fun v5 =>
(f_J6_bitCount_0f7a4 σ v5).bind fun v6 =>
some v6
/-! SlotBundler$Filler.isPreferred -/
def f_X2_isPreferred (σ : sg) (p1 : Int32) (p2 : Int32) (p3 : Int32) : Option Int32 :=
  (f_X7_stopCount σ p1).bind fun v5 =>
(f_X7_stopCount σ p2).bind fun v13 =>
(if p3 ≤ 0 then
  (if (v5 - v13) ≤ 0 then
    some (0 : Int32)
  else
    some (1 : Int32))
else
  (if 0 ≤ (v5 - v13) then
    some (0 : Int32)
  else
    some (1 : Int32)))
/-! SlotBundler$Filler.chosenTemplate -/
def J_X2_chosenTemplate_69 (p1 : Int32) (p2 : Int32) (x3 : Int32) (x4 : Int32) (x5 : Int32) (σ : sg) : Option ((Int32 × Int32 × Int32 × sg) ⊕ (Int32 × sg)) :=
  some (.inl (x3, x4, x5 + (1 : Int32), σ))
def J_X2_chosenTemplate_62 (p1 : Int32) (p2 : Int32) (x5 : Int32) (x6 : Int32) (σ : sg) : Option ((Int32 × Int32 × Int32 × sg) ⊕ (Int32 × sg)) :=
  J_X2_chosenTemplate_69 p1 p2 x5 x6 x5 σ
def B_X2_chosenTemplate_8 (p1 : Int32) (p2 : Int32) (x3 : Int32) (x4 : Int32) (x5 : Int32) (σ : sg) : Option ((Int32 × Int32 × Int32 × sg) ⊕ (Int32 × sg)) :=
  (if (σ 61 2) ≤ x5 then
  some (.inr (x3, σ))
else
  (f_X2_fill σ x5 p1 p2).bind fun s25 =>
  (if x4 < ((s25 72 6) - p1) then
    J_X2_chosenTemplate_62 p1 p2 x5 ((s25 72 6) - p1) s25
  else
    (if ((s25 72 6) - p1) = x4 then
      (f_X2_isPreferred s25 x5 x3 ((s25 72 6) - p1)).bind fun v56 =>
      (if v56 = 0 then
        J_X2_chosenTemplate_69 p1 p2 x3 x4 x5 s25
      else
        J_X2_chosenTemplate_62 p1 p2 x5 ((s25 72 6) - p1) s25)
    else
      J_X2_chosenTemplate_69 p1 p2 x3 x4 x5 s25)))
def L_X2_chosenTemplate_8 (p1 : Int32) (p2 : Int32) (n : Nat) (a : (Int32 × Int32 × Int32 × sg)) : Option (Int32 × sg) := g_loop (fun a => B_X2_chosenTemplate_8 p1 p2 a.1 a.2.1 a.2.2.1 a.2.2.2) n a
def f_X2_chosenTemplate (σ : sg) (p1 : Int32) (p2 : Int32) : Option (Int32 × sg) :=
  L_X2_chosenTemplate_8 p1 p2 gN ((0 : Int32), (-1 : Int32), (0 : Int32), σ)
/-! SlotBundler$History.remember -/
def f_X3_remember (σ : sg) (p2 : Int32) : Option sg :=
  (st σ 44 (σ 43 3) (σ 1 1)).bind fun s12 =>
(st s12 45 (s12 43 3) p2).bind fun s22 =>
(ldr 2 p2).bind fun q28 =>
(ldr 46 (s22 43 3)).bind fun q38 =>
(cp s22 q28 (0 : Int32) q38 (0 : Int32) (4 : Int32)).bind fun s41 =>
(some (up s41 43 3 (((s41 43 3) + (1 : Int32)) - ((s41 43 3) + (1 : Int32)) / (10 : Int32) * (10 : Int32)))).bind fun s54 =>
(some (up s54 43 4 (imin ((s54 43 4) + (1 : Int32)) (10 : Int32)))).bind fun s69 =>
some s69
/-! SlotBundler$History.takeBack -/
def f_X3_takeBack (σ : sg)  : Option sg :=
  (some (up σ 43 3 ((((σ 43 3) + (10 : Int32)) - (1 : Int32)) - (((σ 43 3) + (10 : Int32)) - (1 : Int32)) / (10 : Int32) * (10 : Int32)))).bind fun s13 =>
(some (up s13 43 4 ((s13 43 4) - (1 : Int32)))).bind fun s23 =>
(ldr 46 (s23 43 3)).bind fun q34 =>
(ld s23 45 (s23 43 3)).bind fun v48 =>
(ldr 2 v48).bind fun q49 =>
(cp s23 q34 (0 : Int32) q49 (0 : Int32) (4 : Int32)).bind fun s52 =>
(ld s52 44 (s52 43 3)).bind fun v64 =>
(some (up s52 1 1 v64)).bind fun s65 =>
some s65
/-! SlotBundler$Machine.copyFrom -/
def f_X4_copyFrom (σ : sg) (o : Nat) (p1 : Nat) : Option sg :=
  (cp σ (p1 + 1) (0 : Int32) (o + 1) (0 : Int32) (8 : Int32)).bind fun s12 =>
(cp s12 (p1 + 2) (0 : Int32) (o + 2) (0 : Int32) (16 : Int32)).bind fun s27 =>
some s27
/-! SlotBundler$Machine.holdsTheSameAs -/
def B_X4_holdsTheSameAs_33 (σ : sg) (o : Nat) (p1 : Nat) (x2 : Int32) : Option (Int32 ⊕ Int32) :=
  (if (16 : Int32) ≤ x2 then
  some (.inr (1 : Int32))
else
  (ld σ (o + 2) x2).bind fun v44 =>
  (ld σ (p1 + 2) x2).bind fun v50 =>
  (if v44 = v50 then
    some (.inl (x2 + (1 : Int32)))
  else
    some (.inr (0 : Int32))))
def L_X4_holdsTheSameAs_33 (σ : sg) (o : Nat) (p1 : Nat) (n : Nat) (a : Int32) : Option Int32 := g_loop (fun a => B_X4_holdsTheSameAs_33 σ o p1 a) n a
def B_X4_holdsTheSameAs_2 (σ : sg) (o : Nat) (p1 : Nat) (x2 : Int32) : Option (Int32 ⊕ Int32) :=
  (if (8 : Int32) ≤ x2 then
  (L_X4_holdsTheSameAs_33 σ o p1 gN (0 : Int32)).bind fun t => some (.inr t)
else
  (ld σ (o + 1) x2).bind fun v13 =>
  (ld σ (p1 + 1) x2).bind fun v19 =>
  (if v13 = v19 then
    some (.inl (x2 + (1 : Int32)))
  else
    some (.inr (0 : Int32))))
def L_X4_holdsTheSameAs_2 (σ : sg) (o : Nat) (p1 : Nat) (n : Nat) (a : Int32) : Option Int32 := g_loop (fun a => B_X4_holdsTheSameAs_2 σ o p1 a) n a
def f_X4_holdsTheSameAs (σ : sg) (o : Nat) (p1 : Nat) : Option Int32 :=
  L_X4_holdsTheSameAs_2 σ o p1 gN (0 : Int32)
/-! SlotBundler$Machine.step -/
def f_X4_step (σ : sg) (o : Nat) (p1 : Nat) (p2 : Int32) : Option (Int32 × sg) :=
  (f_X4_successor σ o p1 p2).bind fun v3 =>
(f_X4_cellOf σ o p1).bind fun v11 =>
(f_X4_resultOf σ o p1).bind fun v16 =>
(f_X4_take σ o p1 v11 v16).bind fun s19 =>
some (v3, s19)
/-! SlotBundler$Packing.clear -/
def f_X5_clear (σ : sg)  : Option sg :=
  (some (up σ 75 12 (0 : Int32))).bind fun s2 =>
(some (up s2 75 11 (0 : Int32))).bind fun s7 =>
some s7
/-! SlotBundler$Packing.takeBundle -/
def J_X5_takeBundle_114 (p1 : Int32) (x4 : Int32) (σ : sg) : Option ((Int32 × sg) ⊕ sg) :=
  some (.inl (x4 + (1 : Int32), σ))
def B_X5_takeBundle_23 (p1 : Int32) (x4 : Int32) (σ : sg) : Option ((Int32 × sg) ⊕ sg) :=
  (if (3 : Int32) ≤ x4 then
  (some (up σ 75 11 ((σ 75 11) + (1 : Int32)))).bind fun s127 =>
  some (.inr s127)
else
  (ld σ 74 x4).bind fun v35 =>
  (ldr 76 (σ 75 11)).bind fun q46 =>
  (st σ q46 x4 v35).bind fun s51 =>
  (if v35 = (-4 : Int32) then
    J_X5_takeBundle_114 p1 x4 s51
  else
    (st s51 139 v35 (s51 75 11)).bind fun s69 =>
    (st s69 140 v35 x4).bind fun s78 =>
    (ld s78 73 v35).bind fun v91 =>
    (st s78 141 v35 v91).bind fun s92 =>
    (ld s92 142 p1).bind fun v103 =>
    (f_X5_due s92 v35).bind fun v107 =>
    (st s92 142 p1 (imax v103 v107)).bind fun s113 =>
    J_X5_takeBundle_114 p1 x4 s113))
def L_X5_takeBundle_23 (p1 : Int32) (n : Nat) (a : (Int32 × sg)) : Option sg := g_loop (fun a => B_X5_takeBundle_23 p1 a.1 a.2) n a
def f_X5_takeBundle (σ : sg) (p1 : Int32) (p2 : Int32) : Option sg :=
  (st σ 137 (σ 75 11) p2).bind fun s9 =>
(st s9 138 (s9 75 11) p1).bind fun s19 =>
L_X5_takeBundle_23 p1 gN ((0 : Int32), s19)
/-! SlotBundler$Packing.takeBlock -/
def J_X5_takeBlock_99 (x3 : Int32) (σ : sg) : Option (Int32 × sg) :=
  (if x3 < (σ 72 5) then
  some ((0 : Int32), σ)
else
  some ((1 : Int32), σ))
def J_X5_takeBlock_74 (p1 : Int32) (x5 : Int32) (x6 : Int32) (σ : sg) : Option ((Int32 × Int32 × Int32 × sg) ⊕ (Int32 × sg)) :=
  (f_X5_takeBundle σ p1 x6).bind fun s79 =>
some (.inl (s79 72 6, s79 72 7, x5 + (-1 : Int32), s79))
def B_X5_takeBlock_24 (p1 : Int32) (x3 : Int32) (x4 : Int32) (x5 : Int32) (σ : sg) : Option ((Int32 × Int32 × Int32 × sg) ⊕ (Int32 × sg)) :=
  (if x5 ≤ 0 then
  (J_X5_takeBlock_99 x3 σ).bind fun t => some (.inr t)
else
  (if (σ 72 5) ≤ x3 then
    (J_X5_takeBlock_99 x3 σ).bind fun t => some (.inr t)
  else
    (f_X2_chosenTemplate σ x3 x4).bind fun q41 =>
    (f_X2_fill q41.2 q41.1 x3 x4).bind fun s52 =>
    (if (s52 72 6) = x3 then
      (if (s52 72 7) = x4 then
        some (.inr ((0 : Int32), s52))
      else
        J_X5_takeBlock_74 p1 x5 q41.1 s52)
    else
      J_X5_takeBlock_74 p1 x5 q41.1 s52)))
def L_X5_takeBlock_24 (p1 : Int32) (n : Nat) (a : (Int32 × Int32 × Int32 × sg)) : Option (Int32 × sg) := g_loop (fun a => B_X5_takeBlock_24 p1 a.1 a.2.1 a.2.2.1 a.2.2.2) n a
def f_X5_takeBlock (σ : sg) (p1 : Int32) : Option (Int32 × sg) :=
  (st σ 142 p1 (0 : Int32)).bind fun s14 =>
L_X5_takeBlock_24 p1 gN (σ 72 4, (0 : Int32), (60 : Int32) - (s14 75 11), s14)
/-! SlotBundler$Packing.filledSlots -/
def J_X5_filledSlots_28 (σ : sg) (p1 : Int32) (x2 : Int32) (x3 : Int32) : Option ((Int32 × Int32) ⊕ Int32) :=
  some (.inl (x2, x3 + (1 : Int32)))
def B_X5_filledSlots_4 (σ : sg) (p1 : Int32) (x2 : Int32) (x3 : Int32) : Option ((Int32 × Int32) ⊕ Int32) :=
  (if (3 : Int32) ≤ x3 then
  some (.inr x2)
else
  (ldr 76 p1).bind fun q14 =>
  (ld σ q14 x3).bind fun v16 =>
  (if v16 = (-4 : Int32) then
    J_X5_filledSlots_28 σ p1 x2 x3
  else
    J_X5_filledSlots_28 σ p1 (x2 ||| ((1 : Int32) <<< (x3 &&& 31))) x3))
def L_X5_filledSlots_4 (σ : sg) (p1 : Int32) (n : Nat) (a : (Int32 × Int32)) : Option Int32 := g_loop (fun a => B_X5_filledSlots_4 σ p1 a.1 a.2) n a
def f_X5_filledSlots (σ : sg) (p1 : Int32) : Option Int32 :=
  L_X5_filledSlots_4 σ p1 gN ((0 : Int32), (0 : Int32))
/-! SlotBundler$Packing.writeNumber -/
def f_X5_writeNumber (σ : sg) (p1 : Int32) : Option sg :=
  (st σ 144 (σ 75 10) p1).bind fun s9 =>
(some (up s9 75 10 ((s9 75 10) + (1 : Int32)))).bind fun s17 =>
some s17
/-! SlotBundler$Packing.writeBundle -/
def J_X5_writeBundle_55 (p1 : Int32) (x2 : Int32) (σ : sg) : Option ((Int32 × sg) ⊕ sg) :=
  some (.inl (x2 + (1 : Int32), σ))
def B_X5_writeBundle_25 (p1 : Int32) (x2 : Int32) (σ : sg) : Option ((Int32 × sg) ⊕ sg) :=
  (if (3 : Int32) ≤ x2 then
  some (.inr σ)
else
  (ldr 76 p1).bind fun q35 =>
  (ld σ q35 x2).bind fun v37 =>
  (if v37 = (-4 : Int32) then
    J_X5_writeBundle_55 p1 x2 σ
  else
    (ldr 76 p1).bind fun q49 =>
    (ld σ q49 x2).bind fun v51 =>
    (f_X5_writeNumber σ v51).bind fun s52 =>
    J_X5_writeBundle_55 p1 x2 s52))
def L_X5_writeBundle_25 (p1 : Int32) (n : Nat) (a : (Int32 × sg)) : Option sg := g_loop (fun a => B_X5_writeBundle_25 p1 a.1 a.2) n a
def f_X5_writeBundle (σ : sg) (p1 : Int32) : Option sg :=
  (ld σ 137 p1).bind fun v11 =>
(f_X5_filledSlots σ p1).bind fun v16 =>
(f_X5_writeNumber σ (((1000 : Int32) + ((8 : Int32) * v11)) + v16)).bind fun s20 =>
L_X5_writeBundle_25 p1 gN ((0 : Int32), s20)
/-! SlotBundler$Packing.writeCode -/
def J_X5_writeCode_114 (x1 : Int32) (σ : sg) : Option ((Int32 × sg) ⊕ sg) :=
  some (.inl (x1 + (1 : Int32), σ))
def J_X5_writeCode_109 (x1 : Int32) (σ : sg) : Option ((Int32 × sg) ⊕ sg) :=
  (f_X5_writeNumber σ (-1 : Int32)).bind fun s111 =>
J_X5_writeCode_114 x1 s111
def J_X5_writeCode_61 (x1 : Int32) (x2 : Int32) (σ : sg) : Option ((Int32 × sg) ⊕ sg) :=
  (f_X5_filledSlots σ x1).bind fun v63 =>
(if v63 = 0 then
  (if x2 = 0 then
    (f_X5_filledSlots σ (x1 - (1 : Int32))).bind fun v85 =>
    (if v85 = 0 then
      (ld σ 144 ((σ 75 10) - (1 : Int32))).bind fun v102 =>
      (st σ 144 ((σ 75 10) - (1 : Int32)) (v102 - (1 : Int32))).bind fun s105 =>
      J_X5_writeCode_114 x1 s105
    else
      J_X5_writeCode_109 x1 σ)
  else
    J_X5_writeCode_109 x1 σ)
else
  (f_X5_writeBundle σ x1).bind fun s71 =>
  J_X5_writeCode_114 x1 s71)
def J_X5_writeCode_41 (x1 : Int32) (t0 : Int32) (σ : sg) : Option ((Int32 × sg) ⊕ sg) :=
  (if t0 = 0 then
  J_X5_writeCode_61 x1 t0 σ
else
  (ld σ 138 x1).bind fun v55 =>
  (st σ 143 v55 (σ 75 10)).bind fun s60 =>
  J_X5_writeCode_61 x1 t0 s60)
def J_X5_writeCode_36 (x1 : Int32) (σ : sg) : Option ((Int32 × sg) ⊕ sg) :=
  J_X5_writeCode_41 x1 (1 : Int32) σ
def B_X5_writeCode_7 (x1 : Int32) (σ : sg) : Option ((Int32 × sg) ⊕ sg) :=
  (if (σ 75 11) ≤ x1 then
  some (.inr σ)
else
  (if x1 = 0 then
    J_X5_writeCode_36 x1 σ
  else
    (ld σ 138 x1).bind fun v24 =>
    (ld σ 138 (x1 - (1 : Int32))).bind fun v32 =>
    (if v24 = v32 then
      J_X5_writeCode_41 x1 (0 : Int32) σ
    else
      J_X5_writeCode_36 x1 σ)))
def L_X5_writeCode_7  (n : Nat) (a : (Int32 × sg)) : Option sg := g_loop (fun a => B_X5_writeCode_7 a.1 a.2) n a
def f_X5_writeCode (σ : sg)  : Option sg :=
  (some (up σ 75 10 (0 : Int32))).bind fun s2 =>
L_X5_writeCode_7  gN ((0 : Int32), s2)
/-! SlotBundler$Program.isRegister -/
def f_X6_isRegister (σ : sg) (p0 : Int32) : Option Int32 :=
  (if p0 < 0 then
  some (0 : Int32)
else
  (if (8 : Int32) ≤ p0 then
    some (0 : Int32)
  else
    some (1 : Int32)))
/-! SlotBundler$Program.isTarget -/
def f_X6_isTarget (σ : sg) (p0 : Int32) : Option Int32 :=
  (if p0 < 0 then
  some (0 : Int32)
else
  (if (40 : Int32) ≤ p0 then
    some (0 : Int32)
  else
    some (1 : Int32)))
/-! SlotBundler$Program.isCalculation -/
def f_X6_isCalculation (σ : sg) (p0 : Int32) : Option Int32 :=
  (if p0 < (1 : Int32) then
  some (0 : Int32)
else
  (if (7 : Int32) < p0 then
    some (0 : Int32)
  else
    some (1 : Int32)))
/-! SlotBundler$Program.isInstruction -/
def J_X6_isInstruction_210 (σ : sg) (p0 : Int32) (p1 : Int32) (p2 : Int32) (p3 : Int32) : Option Int32 :=
  (f_X6_isCalculation σ p0).bind fun v211 =>
(if v211 = 0 then
  some (0 : Int32)
else
  (f_X6_isRegister σ p1).bind fun v218 =>
  (if v218 = 0 then
    some (0 : Int32)
  else
    (f_X6_isRegister σ p2).bind fun v225 =>
    (if v225 = 0 then
      some (0 : Int32)
    else
      (f_X6_isRegister σ p3).bind fun v232 =>
      (if v232 = 0 then
        some (0 : Int32)
      else
        some (1 : Int32)))))
def f_X6_isInstruction (σ : sg) (p0 : Int32) (p1 : Int32) (p2 : Int32) (p3 : Int32) : Option Int32 :=
  (if p0 = (0 : Int32) then
  (f_X6_isRegister σ p1).bind fun v69 =>
  (if v69 = 0 then
    some (0 : Int32)
  else
    (if p2 < (-999 : Int32) then
      some (0 : Int32)
    else
      (if (999 : Int32) < p2 then
        some (0 : Int32)
      else
        (if p3 = 0 then
          some (1 : Int32)
        else
          some (0 : Int32)))))
else
  (if p0 = (1 : Int32) then
    J_X6_isInstruction_210 σ p0 p1 p2 p3
  else
    (if p0 = (2 : Int32) then
      J_X6_isInstruction_210 σ p0 p1 p2 p3
    else
      (if p0 = (3 : Int32) then
        J_X6_isInstruction_210 σ p0 p1 p2 p3
      else
        (if p0 = (4 : Int32) then
          J_X6_isInstruction_210 σ p0 p1 p2 p3
        else
          (if p0 = (5 : Int32) then
            J_X6_isInstruction_210 σ p0 p1 p2 p3
          else
            (if p0 = (6 : Int32) then
              J_X6_isInstruction_210 σ p0 p1 p2 p3
            else
              (if p0 = (7 : Int32) then
                J_X6_isInstruction_210 σ p0 p1 p2 p3
              else
                (if p0 = (8 : Int32) then
                  (f_X6_isRegister σ p1).bind fun v100 =>
                  (if v100 = 0 then
                    some (0 : Int32)
                  else
                    (f_X6_isRegister σ p2).bind fun v107 =>
                    (if v107 = 0 then
                      some (0 : Int32)
                    else
                      (if p3 = 0 then
                        some (1 : Int32)
                      else
                        some (0 : Int32))))
                else
                  (if p0 = (9 : Int32) then
                    (if p1 = 0 then
                      (f_X6_isRegister σ p2).bind fun v128 =>
                      (if v128 = 0 then
                        some (0 : Int32)
                      else
                        (f_X6_isRegister σ p3).bind fun v135 =>
                        (if v135 = 0 then
                          some (0 : Int32)
                        else
                          some (1 : Int32)))
                    else
                      some (0 : Int32))
                  else
                    (if p0 = (10 : Int32) then
                      (if p1 = 0 then
                        (f_X6_isTarget σ p2).bind fun v152 =>
                        (if v152 = 0 then
                          some (0 : Int32)
                        else
                          (if p3 = 0 then
                            some (1 : Int32)
                          else
                            some (0 : Int32)))
                      else
                        some (0 : Int32))
                    else
                      (if p0 = (11 : Int32) then
                        (if p1 = 0 then
                          (f_X6_isTarget σ p2).bind fun v173 =>
                          (if v173 = 0 then
                            some (0 : Int32)
                          else
                            (f_X6_isRegister σ p3).bind fun v180 =>
                            (if v180 = 0 then
                              some (0 : Int32)
                            else
                              some (1 : Int32)))
                        else
                          some (0 : Int32))
                      else
                        (if p0 = (12 : Int32) then
                          (if p1 = 0 then
                            (if p2 = 0 then
                              (if p3 = 0 then
                                some (1 : Int32)
                              else
                                some (0 : Int32))
                            else
                              some (0 : Int32))
                          else
                            some (0 : Int32))
                        else
                          J_X6_isInstruction_210 σ p0 p1 p2 p3)))))))))))))
/-! SlotBundler$Program.write -/
def f_X6_write (σ : sg) (p1 : Int32) (p2 : Int32) (p3 : Int32) (p4 : Int32) (p5 : Int32) : Option sg :=
  (ldr 2 p1).bind fun q5 =>
(st σ q5 (0 : Int32) p2).bind fun s12 =>
(st s12 q5 (1 : Int32) p3).bind fun s17 =>
(st s17 q5 (2 : Int32) p4).bind fun s23 =>
(st s23 q5 (3 : Int32) p5).bind fun s29 =>
some s29
/-! SlotBundler$Templates.isType -/
def f_X7_isType (σ : sg) (p0 : Int32) : Option Int32 :=
  (if p0 < 0 then
  some (0 : Int32)
else
  (if (4 : Int32) ≤ p0 then
    some (0 : Int32)
  else
    some (1 : Int32)))
/-! SlotBundler$Templates.append -/
def f_X7_append (σ : sg) (p1 : Int32) (p2 : Int32) (p3 : Int32) (p4 : Int32) : Option sg :=
  (ldr 62 (σ 61 2)).bind fun q8 =>
(st σ q8 (0 : Int32) p1).bind fun s11 =>
(ldr 62 (s11 61 2)).bind fun q20 =>
(st s11 q20 (1 : Int32) p2).bind fun s23 =>
(ldr 62 (s23 61 2)).bind fun q32 =>
(st s23 q32 (2 : Int32) p3).bind fun s35 =>
(st s35 71 (s35 61 2) p4).bind fun s46 =>
(some (up s46 61 2 ((s46 61 2) + (1 : Int32)))).bind fun s54 =>
some s54
/-! SlotBundler.add -/
def f_X8_add (σ : sg) (p1 : Int32) (p2 : Int32) (p3 : Int32) (p4 : Int32) : Option (Int32 × sg) :=
  (f_X6_isInstruction σ p1 p2 p3 p4).bind fun v5 =>
(if v5 = 0 then
  some ((-2 : Int32), σ)
else
  (if (σ 75 12) = 0 then
    (if (σ 1 1) < (40 : Int32) then
      (f_X3_remember σ (σ 1 1)).bind fun s61 =>
      (f_X6_write s61 (σ 1 1) p1 p2 p3 p4).bind fun s75 =>
      (some (up s75 1 1 ((σ 1 1) + (1 : Int32)))).bind fun s86 =>
      (f_X1_cut s86 ).bind fun s97 =>
      some (σ 1 1, s97)
    else
      some ((-3 : Int32), σ))
  else
    some ((-5 : Int32), σ)))
/-! SlotBundler.set -/
def f_X8_set (σ : sg) (p1 : Int32) (p2 : Int32) (p3 : Int32) (p4 : Int32) (p5 : Int32) : Option (Int32 × sg) :=
  (f_X6_has σ p1).bind fun v5 =>
(if v5 = 0 then
  some ((-1 : Int32), σ)
else
  (f_X6_isInstruction σ p2 p3 p4 p5).bind fun v19 =>
  (if v19 = 0 then
    some ((-2 : Int32), σ)
  else
    (if (σ 75 12) = 0 then
      (f_X6_operationOf σ p1).bind fun v46 =>
      (f_X3_remember σ p1).bind fun s60 =>
      (f_X6_write s60 p1 p2 p3 p4 p5).bind fun s74 =>
      (f_X1_cut s74 ).bind fun s85 =>
      some (v46, s85)
    else
      some ((-5 : Int32), σ))))
/-! SlotBundler.removeLast -/
def f_X8_removeLast (σ : sg)  : Option (Int32 × sg) :=
  (if (σ 75 12) = 0 then
  (if (σ 1 1) = 0 then
    some ((-4 : Int32), σ)
  else
    (f_X3_remember σ ((σ 1 1) - (1 : Int32))).bind fun s45 =>
    (some (up s45 1 1 ((σ 1 1) - (1 : Int32)))).bind fun s53 =>
    (f_X1_cut s53 ).bind fun s64 =>
    some ((σ 1 1) - (1 : Int32), s64))
else
  some ((-5 : Int32), σ))
/-! SlotBundler.size -/
def f_X8_size (σ : sg)  : Option Int32 :=
  some (σ 1 1)
/-! SlotBundler.part -/
def f_X8_part (σ : sg) (p1 : Int32) (p2 : Int32) : Option Int32 :=
  (f_X6_has σ p1).bind fun v5 =>
(if v5 = 0 then
  some (-1 : Int32)
else
  (if p2 < 0 then
    some (-2 : Int32)
  else
    (if p2 < (4 : Int32) then
      (ldr 2 p1).bind fun q33 =>
      (ld σ q33 p2).bind fun v35 =>
      some (v35 + (1000 : Int32))
    else
      some (-2 : Int32))))
/-! SlotBundler.undo -/
def f_X8_undo (σ : sg)  : Option (Int32 × sg) :=
  (if (σ 75 12) = 0 then
  (if (σ 43 4) = 0 then
    some ((-4 : Int32), σ)
  else
    (f_X3_takeBack σ ).bind fun s34 =>
    (f_X1_cut s34 ).bind fun s45 =>
    some (s45 43 4, s45))
else
  some ((-5 : Int32), σ))
/-! SlotBundler.blockCount -/
def f_X8_blockCount (σ : sg)  : Option Int32 :=
  (if (σ 57 4) = 0 then
  some (-6 : Int32)
else
  some (σ 57 3))
/-! SlotBundler.blockOf -/
def f_X8_blockOf (σ : sg) (p1 : Int32) : Option Int32 :=
  (f_X6_has σ p1).bind fun v5 =>
(if v5 = 0 then
  some (-1 : Int32)
else
  (if (σ 57 4) = 0 then
    some (-6 : Int32)
  else
    (ld σ 59 p1).bind fun v31 =>
    some v31))
/-! SlotBundler.blockBegin -/
def f_X8_blockBegin (σ : sg) (p1 : Int32) : Option Int32 :=
  (if (σ 57 4) = 0 then
  some (-6 : Int32)
else
  (f_X1_has σ p1).bind fun v18 =>
  (if v18 = 0 then
    some (-1 : Int32)
  else
    (ld σ 58 p1).bind fun v32 =>
    some v32))
/-! SlotBundler.distance -/
def f_X8_distance (σ : sg) (p1 : Int32) (p2 : Int32) : Option Int32 :=
  (f_X6_has σ p1).bind fun v5 =>
(if v5 = 0 then
  some (-1 : Int32)
else
  (f_X6_has σ p2).bind fun v16 =>
  (if v16 = 0 then
    some (-1 : Int32)
  else
    (if (σ 57 4) = 0 then
      some (-6 : Int32)
    else
      (if p2 ≤ p1 then
        some (-2 : Int32)
      else
        (ld σ 59 p1).bind fun v50 =>
        (ld σ 59 p2).bind fun v59 =>
        (if v50 = v59 then
          (f_X6_gap σ p1 p2).bind fun v72 =>
          some v72
        else
          some (-2 : Int32))))))
/-! SlotBundler.addTemplate -/
def f_X8_addTemplate (σ : sg) (p1 : Int32) (p2 : Int32) (p3 : Int32) (p4 : Int32) : Option (Int32 × sg) :=
  (f_X7_isType σ p1).bind fun v1 =>
(if v1 = 0 then
  some ((-2 : Int32), σ)
else
  (f_X7_isType σ p2).bind fun v8 =>
  (if v8 = 0 then
    some ((-2 : Int32), σ)
  else
    (f_X7_isType σ p3).bind fun v15 =>
    (if v15 = 0 then
      some ((-2 : Int32), σ)
    else
      (if p4 < 0 then
        some ((-2 : Int32), σ)
      else
        (if p4 < (8 : Int32) then
          (if (σ 75 12) = 0 then
            (if (σ 61 2) < (8 : Int32) then
              (f_X7_append σ p1 p2 p3 p4).bind fun s76 =>
              some ((s76 61 2) - (1 : Int32), s76)
            else
              some ((-3 : Int32), σ))
          else
            some ((-5 : Int32), σ))
        else
          some ((-2 : Int32), σ))))))
/-! SlotBundler.clearTemplates -/
def f_X8_clearTemplates (σ : sg)  : Option (Int32 × sg) :=
  (if (σ 75 12) = 0 then
  (some (up σ 61 2 (0 : Int32))).bind fun s26 =>
  some (σ 61 2, s26)
else
  some ((-5 : Int32), σ))
/-! SlotBundler.templateCount -/
def f_X8_templateCount (σ : sg)  : Option Int32 :=
  some (σ 61 2)
/-! SlotBundler.template -/
def f_X8_template (σ : sg) (p1 : Int32) (p2 : Int32) : Option Int32 :=
  (if p1 < 0 then
  some (-1 : Int32)
else
  (if p1 < (σ 61 2) then
    (if p2 < 0 then
      some (-2 : Int32)
    else
      (if p2 ≤ (3 : Int32) then
        (if p2 = (3 : Int32) then
          (ld σ 71 p1).bind fun v42 =>
          some v42
        else
          (ldr 62 p1).bind fun q54 =>
          (ld σ q54 p2).bind fun v56 =>
          some v56)
      else
        some (-2 : Int32)))
  else
    some (-1 : Int32)))
/-! SlotBundler.pack -/
def B_X8_pack_22 (x1 : Int32) (σ : sg) : Option ((Int32 × sg) ⊕ (Int32 × sg)) :=
  (if (σ 57 3) ≤ x1 then
  (f_X5_writeCode σ ).bind fun s98 =>
  (some (up s98 75 12 (1 : Int32))).bind fun s106 =>
  some (.inr (s106 75 11, s106))
else
  (ld σ 58 x1).bind fun v45 =>
  (ld σ 58 (x1 + (1 : Int32))).bind fun v56 =>
  (f_X2_enter σ v45 v56).bind fun s57 =>
  (if (s57 61 2) = 0 then
    some (.inr ((-8 : Int32), s57))
  else
    (f_X5_takeBlock s57 x1).bind fun q79 =>
    (if q79.1 = 0 then
      some (.inr ((-8 : Int32), q79.2))
    else
      some (.inl (x1 + (1 : Int32), q79.2)))))
def L_X8_pack_22  (n : Nat) (a : (Int32 × sg)) : Option (Int32 × sg) := g_loop (fun a => B_X8_pack_22 a.1 a.2) n a
def f_X8_pack (σ : sg)  : Option (Int32 × sg) :=
  (if (σ 57 4) = 0 then
  some ((-6 : Int32), σ)
else
  (f_X5_clear σ ).bind fun s17 =>
  L_X8_pack_22  gN ((0 : Int32), s17))
/-! SlotBundler.unpack -/
def f_X8_unpack (σ : sg)  : Option (Int32 × sg) :=
  (if (σ 75 12) = 0 then
  some ((-5 : Int32), σ)
else
  (some (up σ 75 12 (0 : Int32))).bind fun s18 =>
  some (s18 75 11, s18))
/-! SlotBundler.bundleCount -/
def f_X8_bundleCount (σ : sg)  : Option Int32 :=
  (if (σ 75 12) = 0 then
  some (-5 : Int32)
else
  some (σ 75 11))
/-! SlotBundler.bundle -/
def f_X8_bundle (σ : sg) (p1 : Int32) (p2 : Int32) : Option Int32 :=
  (if (σ 75 12) = 0 then
  some (-5 : Int32)
else
  (if p1 < 0 then
    some (-1 : Int32)
  else
    (if p1 < (σ 75 11) then
      (if p2 < 0 then
        some (-2 : Int32)
      else
        (if p2 ≤ (4 : Int32) then
          (if p2 = (3 : Int32) then
            (ld σ 137 p1).bind fun v55 =>
            some v55
          else
            (if p2 = (4 : Int32) then
              (ld σ 138 p1).bind fun v70 =>
              some v70
            else
              (ldr 76 p1).bind fun q82 =>
              (ld σ q82 p2).bind fun v84 =>
              some v84))
        else
          some (-2 : Int32)))
    else
      some (-1 : Int32))))
/-! SlotBundler.placeOf -/
def f_X8_placeOf (σ : sg) (p1 : Int32) (p2 : Int32) : Option Int32 :=
  (if (σ 75 12) = 0 then
  some (-5 : Int32)
else
  (f_X6_has σ p1).bind fun v18 =>
  (if v18 = 0 then
    some (-1 : Int32)
  else
    (if p2 = (0 : Int32) then
      (ld σ 139 p1).bind fun v60 =>
      some v60
    else
      (if p2 = (1 : Int32) then
        (ld σ 140 p1).bind fun v70 =>
        some v70
      else
        (if p2 = (2 : Int32) then
          (ld σ 141 p1).bind fun v80 =>
          some v80
        else
          some (-2 : Int32))))))
/-! SlotBundler.cycles -/
def f_X8_cycles (σ : sg) (p1 : Int32) : Option Int32 :=
  (if (σ 75 12) = 0 then
  some (-5 : Int32)
else
  (f_X1_has σ p1).bind fun v18 =>
  (if v18 = 0 then
    some (-1 : Int32)
  else
    (ld σ 142 p1).bind fun v32 =>
    some v32))
/-! SlotBundler.emptySlots -/
def f_X8_emptySlots (σ : sg)  : Option Int32 :=
  (if (σ 75 12) = 0 then
  some (-5 : Int32)
else
  some (((σ 75 11) * (3 : Int32)) - (σ 1 1)))
/-! SlotBundler.packsInto -/
def B_X8_packsInto_28 (rec : sg → Int32 → Int32 → Int32 → Option (Int32 × sg)) (p1 : Int32) (p2 : Int32) (p3 : Int32) (x5 : Int32) (σ : sg) : Option ((Int32 × sg) ⊕ (Int32 × sg)) :=
  (if (σ 61 2) ≤ x5 then
  some (.inr ((0 : Int32), σ))
else
  (f_X2_fill σ x5 p2 p3).bind fun s45 =>
  (rec s45 (p1 - (1 : Int32)) (s45 72 6) (s45 72 7)).bind fun q60 =>
  (if q60.1 = 0 then
    some (.inl (x5 + (1 : Int32), q60.2))
  else
    some (.inr ((1 : Int32), q60.2))))
def L_X8_packsInto_28 (rec : sg → Int32 → Int32 → Int32 → Option (Int32 × sg)) (p1 : Int32) (p2 : Int32) (p3 : Int32) (n : Nat) (a : (Int32 × sg)) : Option (Int32 × sg) := g_loop (fun a => B_X8_packsInto_28 rec p1 p2 p3 a.1 a.2) n a
def E_X8_packsInto (rec : sg → Int32 → Int32 → Int32 → Option (Int32 × sg)) (σ : sg) (p1 : Int32) (p2 : Int32) (p3 : Int32) : Option (Int32 × sg) :=
  (if 0 < ((σ 72 5) - p2) then
  (if ((σ 72 5) - p2) ≤ (p1 * (3 : Int32)) then
    L_X8_packsInto_28 rec p1 p2 p3 gN ((0 : Int32), σ)
  else
    some ((0 : Int32), σ))
else
  some ((1 : Int32), σ))
def f_X8_packsInto : Nat → sg → Int32 → Int32 → Int32 → Option (Int32 × sg)
  | 0 => fun _ _ _ _ => none
  | n + 1 => E_X8_packsInto (f_X8_packsInto n)
/-! SlotBundler.least -/
def B_X8_least_70 (p2 : Int32) (x3 : Int32) (x4 : Int32) (σ : sg) : Option ((Int32 × sg) ⊕ (Int32 × sg)) :=
  (if p2 < x4 then
  some (.inr ((-4 : Int32), σ))
else
  (f_X8_packsInto 8 σ x4 x3 (0 : Int32)).bind fun q84 =>
  (if q84.1 = 0 then
    some (.inl (x4 + (1 : Int32), q84.2))
  else
    some (.inr (x4, q84.2))))
def L_X8_least_70 (p2 : Int32) (x3 : Int32) (n : Nat) (a : (Int32 × sg)) : Option (Int32 × sg) := g_loop (fun a => B_X8_least_70 p2 x3 a.1 a.2) n a
def f_X8_least (σ : sg) (p1 : Int32) (p2 : Int32) : Option (Int32 × sg) :=
  (if (σ 57 4) = 0 then
  some ((-6 : Int32), σ)
else
  (f_X1_has σ p1).bind fun v18 =>
  (if v18 = 0 then
    some ((-1 : Int32), σ)
  else
    (if p2 < 0 then
      some ((-2 : Int32), σ)
    else
      (if p2 ≤ (4 : Int32) then
        (ld σ 58 p1).bind fun v46 =>
        (ld σ 58 (p1 + (1 : Int32))).bind fun v63 =>
        (f_X2_enter σ v46 v63).bind fun s64 =>
        L_X8_least_70 p2 v46 gN ((1 : Int32), s64)
      else
        some ((-2 : Int32), σ)))))
/-! SlotBundler.codeLength -/
def f_X8_codeLength (σ : sg)  : Option Int32 :=
  (if (σ 75 12) = 0 then
  some (-5 : Int32)
else
  some (σ 75 10))
/-! SlotBundler.code -/
def f_X8_code (σ : sg) (p1 : Int32) : Option Int32 :=
  (if (σ 75 12) = 0 then
  some (-5 : Int32)
else
  (if p1 < 0 then
    some (-1 : Int32)
  else
    (if p1 < (σ 75 10) then
      (ld σ 144 p1).bind fun v38 =>
      some (v38 + (2000 : Int32))
    else
      some (-1 : Int32))))
/-! SlotBundler.codeIndex -/
def f_X8_codeIndex (σ : sg) (p1 : Int32) : Option Int32 :=
  (if (σ 75 12) = 0 then
  some (-5 : Int32)
else
  (f_X1_has σ p1).bind fun v18 =>
  (if v18 = 0 then
    some (-1 : Int32)
  else
    (ld σ 143 p1).bind fun v32 =>
    some v32))
/-! SlotBundler.setRegister -/
def f_X8_setRegister (σ : sg) (p1 : Int32) (p2 : Int32) : Option (Int32 × sg) :=
  (if p1 < 0 then
  some ((-1 : Int32), σ)
else
  (if p1 < (8 : Int32) then
    (st σ (145 + 1) p1 p2).bind fun s21 =>
    some ((1 : Int32), s21)
  else
    some ((-1 : Int32), σ)))
/-! SlotBundler.register -/
def f_X8_register (σ : sg) (p1 : Int32) : Option Int64 :=
  (if p1 < 0 then
  some (-9223372036854775808 : Int64)
else
  (if p1 < (8 : Int32) then
    (ld σ (145 + 1) p1).bind fun v22 =>
    some v22.toInt64
  else
    some (-9223372036854775808 : Int64)))
/-! SlotBundler.setMemory -/
def f_X8_setMemory (σ : sg) (p1 : Int32) (p2 : Int32) : Option (Int32 × sg) :=
  (if p1 < 0 then
  some ((-1 : Int32), σ)
else
  (if p1 < (16 : Int32) then
    (st σ (145 + 2) p1 p2).bind fun s21 =>
    some ((1 : Int32), s21)
  else
    some ((-1 : Int32), σ)))
/-! SlotBundler.memory -/
def f_X8_memory (σ : sg) (p1 : Int32) : Option Int64 :=
  (if p1 < 0 then
  some (-9223372036854775808 : Int64)
else
  (if p1 < (16 : Int32) then
    (ld σ (145 + 2) p1).bind fun v22 =>
    some v22.toInt64
  else
    some (-9223372036854775808 : Int64)))
/-! SlotBundler.executeProgram -/
def J_X8_executeProgram_43 (x3 : Int32) (x4 : Int32) (σ : sg) : Option (Int32 × sg) :=
  (f_X6_has σ x3).bind fun v48 =>
(if v48 = 0 then
  some (x4, σ)
else
  some ((-7 : Int32), σ))
def B_X8_executeProgram_5 (p1 : Nat) (p2 : Int32) (x3 : Int32) (x4 : Int32) (σ : sg) : Option ((Int32 × Int32 × sg) ⊕ (Int32 × sg)) :=
  (if p2 ≤ x4 then
  (J_X8_executeProgram_43 x3 x4 σ).bind fun t => some (.inr t)
else
  (f_X6_has σ x3).bind fun v16 =>
  (if v16 = 0 then
    (J_X8_executeProgram_43 x3 x4 σ).bind fun t => some (.inr t)
  else
    (ldr 2 x3).bind fun q31 =>
    (f_X4_step σ p1 q31 x3).bind fun q33 =>
    some (.inl (q33.1, x4 + (1 : Int32), q33.2))))
def L_X8_executeProgram_5 (p1 : Nat) (p2 : Int32) (n : Nat) (a : (Int32 × Int32 × sg)) : Option (Int32 × sg) := g_loop (fun a => B_X8_executeProgram_5 p1 p2 a.1 a.2.1 a.2.2) n a
def f_X8_executeProgram (σ : sg) (p1 : Nat) (p2 : Int32) : Option (Int32 × sg) :=
  L_X8_executeProgram_5 p1 p2 gN ((0 : Int32), (0 : Int32), σ)
/-! SlotBundler.run -/
def f_X8_run (σ : sg) (p1 : Int32) : Option (Int32 × sg) :=
  (if p1 < 0 then
  some ((-2 : Int32), σ)
else
  (if p1 ≤ (300 : Int32) then
    (if (σ 57 4) = 0 then
      some ((-6 : Int32), σ)
    else
      (f_X8_executeProgram σ 145 p1).bind fun q30 =>
      some (q30.1, q30.2))
  else
    some ((-2 : Int32), σ)))
/-! SlotBundler.executePacking -/
def J_X8_executePacking_55 (x3 : Int32) (x4 : Int32) (σ : sg) : Option (Int32 × sg) :=
  (f_X1_has σ x3).bind fun v60 =>
(if v60 = 0 then
  some (x4, σ)
else
  some ((-7 : Int32), σ))
def B_X8_executePacking_8 (p1 : Nat) (p2 : Int32) (x3 : Int32) (x4 : Int32) (x5 : Int32) (σ : sg) : Option ((Int32 × Int32 × Int32 × sg) ⊕ (Int32 × sg)) :=
  (if p2 ≤ x5 then
  (J_X8_executePacking_55 x3 x4 σ).bind fun t => some (.inr t)
else
  (f_X1_has σ x3).bind fun v19 =>
  (if v19 = 0 then
    (J_X8_executePacking_55 x3 x4 σ).bind fun t => some (.inr t)
  else
    (ld σ 142 x3).bind fun v35 =>
    (f_X0_execute σ p1 x3).bind fun q45 =>
    some (.inl (q45.1, x4 + v35, x5 + (1 : Int32), q45.2))))
def L_X8_executePacking_8 (p1 : Nat) (p2 : Int32) (n : Nat) (a : (Int32 × Int32 × Int32 × sg)) : Option (Int32 × sg) := g_loop (fun a => B_X8_executePacking_8 p1 p2 a.1 a.2.1 a.2.2.1 a.2.2.2) n a
def f_X8_executePacking (σ : sg) (p1 : Nat) (p2 : Int32) : Option (Int32 × sg) :=
  L_X8_executePacking_8 p1 p2 gN ((0 : Int32), (0 : Int32), (0 : Int32), σ)
/-! SlotBundler.runBundles -/
def f_X8_runBundles (σ : sg) (p1 : Int32) : Option (Int32 × sg) :=
  (if p1 < 0 then
  some ((-2 : Int32), σ)
else
  (if p1 ≤ (100 : Int32) then
    (if (σ 75 12) = 0 then
      some ((-5 : Int32), σ)
    else
      (f_X8_executePacking σ 145 p1).bind fun q29 =>
      some (q29.1, q29.2))
  else
    some ((-2 : Int32), σ)))
/-! SlotBundler.compare -/
def J_X8_compare_87 (t0 : Int32) (σ : sg) : Option (Int32 × sg) :=
  (if t0 = 0 then
  some ((0 : Int32), σ)
else
  (f_X4_holdsTheSameAs σ 151 148).bind fun v100 =>
  (if v100 = 0 then
    some ((0 : Int32), σ)
  else
    some ((1 : Int32), σ)))
def f_X8_compare (σ : sg) (p1 : Int32) : Option (Int32 × sg) :=
  (if p1 < 0 then
  some ((-2 : Int32), σ)
else
  (if p1 ≤ (300 : Int32) then
    (if (σ 75 12) = 0 then
      some ((-5 : Int32), σ)
    else
      (f_X4_copyFrom σ 148 145).bind fun s35 =>
      (f_X8_executeProgram s35 148 p1).bind fun q44 =>
      (if q44.1 = (-7 : Int32) then
        some ((-7 : Int32), q44.2)
      else
        (f_X4_copyFrom q44.2 151 145).bind fun s63 =>
        (f_X8_executePacking s63 151 (300 : Int32)).bind fun q74 =>
        (if q74.1 = (-7 : Int32) then
          J_X8_compare_87 (0 : Int32) q74.2
        else
          J_X8_compare_87 (1 : Int32) q74.2)))
  else
    some ((-2 : Int32), σ)))
/-! SlotBundlerModel.isBetween -/
def f_X9_isBetween (σ : sg) (p0 : Int32) (p1 : Int32) (p2 : Int32) : Option Int32 :=
  (if p0 < p1 then
  some (0 : Int32)
else
  (if p2 < p0 then
    some (0 : Int32)
  else
    some (1 : Int32)))
/-! SlotBundlerModel.isRegister -/
def f_X9_isRegister (σ : sg) (p0 : Int32) : Option Int32 :=
  (f_X9_isBetween σ p0 (0 : Int32) (7 : Int32)).bind fun v4 =>
(if v4 = 0 ∨ v4 = 1 then some v4 else none)
/-! SlotBundlerModel.copy -/
def B_X9_copy_2 (p0 : Nat) (p1 : Nat) (x2 : Int32) (σ : sg) : Option ((Int32 × sg) ⊕ sg) :=
  (if (160 : Int32) ≤ x2 then
  some (.inr σ)
else
  (ldr p1 (x2 / (4 : Int32))).bind fun q13 =>
  (ldr p0 (x2 / (4 : Int32))).bind fun q21 =>
  (ld σ q21 (x2 - x2 / (4 : Int32) * (4 : Int32))).bind fun v25 =>
  (st σ q13 (x2 - x2 / (4 : Int32) * (4 : Int32)) v25).bind fun s26 =>
  some (.inl (x2 + (1 : Int32), s26)))
def L_X9_copy_2 (p0 : Nat) (p1 : Nat) (n : Nat) (a : (Int32 × sg)) : Option sg := g_loop (fun a => B_X9_copy_2 p0 p1 a.1 a.2) n a
def f_X9_copy (σ : sg) (p0 : Nat) (p1 : Nat) : Option sg :=
  L_X9_copy_2 p0 p1 gN ((0 : Int32), σ)
/-! SlotBundlerModel.remember -/
def J_X9_remember_66 (σ : sg) : Option sg :=
  (st σ 610 (σ 157 4) (σ 157 0)).bind fun s78 =>
(ldr 199 (s78 157 4)).bind fun q91 =>
(f_X9_copy s78 158 q91).bind fun s92 =>
(some (up s92 157 4 ((s92 157 4) + (1 : Int32)))).bind fun s102 =>
some s102
def B_X9_remember_21 (x1 : Int32) (σ : sg) : Option ((Int32 × sg) ⊕ sg) :=
  (if (σ 157 4) ≤ x1 then
  (J_X9_remember_66 σ).bind fun t => some (.inr t)
else
  (ld σ 610 (x1 + (1 : Int32))).bind fun v41 =>
  (st σ 610 x1 v41).bind fun s42 =>
  (ldr 199 (x1 + (1 : Int32))).bind fun q50 =>
  (ldr 199 x1).bind fun q56 =>
  (f_X9_copy s42 q50 q56).bind fun s57 =>
  some (.inl (x1 + (1 : Int32), s57)))
def L_X9_remember_21  (n : Nat) (a : (Int32 × sg)) : Option sg := g_loop (fun a => B_X9_remember_21 a.1 a.2) n a
def f_X9_remember (σ : sg)  : Option sg :=
  (if (σ 157 4) = (10 : Int32) then
  (some (up σ 157 4 ((σ 157 4) - (1 : Int32)))).bind fun s16 =>
  L_X9_remember_21  gN ((0 : Int32), s16)
else
  J_X9_remember_66 σ)
/-! SlotBundlerModel.isInstruction -/
def J_X9_isInstruction_197 (σ : sg) : Option Int32 :=
  some (1 : Int32)
def f_X9_isInstruction (σ : sg) (p0 : Int32) (p1 : Int32) (p2 : Int32) (p3 : Int32) : Option Int32 :=
  (f_X9_isBetween σ p0 (0 : Int32) (12 : Int32)).bind fun v4 =>
(if v4 = 0 then
  some (0 : Int32)
else
  (if p0 = 0 then
    (f_X9_isRegister σ p1).bind fun v17 =>
    (if v17 = 0 then
      some (0 : Int32)
    else
      (f_X9_isBetween σ p2 (-999 : Int32) (999 : Int32)).bind fun v30 =>
      (if v30 = 0 then
        some (0 : Int32)
      else
        (if p3 = 0 then
          some (1 : Int32)
        else
          some (0 : Int32))))
  else
    (if (8 : Int32) ≤ p0 then
      (if p0 = (8 : Int32) then
        (f_X9_isRegister σ p1).bind fun v86 =>
        (if v86 = 0 then
          some (0 : Int32)
        else
          (f_X9_isRegister σ p2).bind fun v93 =>
          (if v93 = 0 then
            some (0 : Int32)
          else
            (if p3 = 0 then
              some (1 : Int32)
            else
              some (0 : Int32))))
      else
        (if p0 = (9 : Int32) then
          (if p1 = 0 then
            (f_X9_isRegister σ p2).bind fun v120 =>
            (if v120 = 0 then
              some (0 : Int32)
            else
              (f_X9_isRegister σ p3).bind fun v127 =>
              (if v127 = 0 then
                some (0 : Int32)
              else
                some (1 : Int32)))
          else
            some (0 : Int32))
        else
          (if p0 = (12 : Int32) then
            (if p1 = 0 then
              (if p2 = 0 then
                (if p3 = 0 then
                  some (1 : Int32)
                else
                  some (0 : Int32))
              else
                some (0 : Int32))
            else
              some (0 : Int32))
          else
            (if p1 = 0 then
              (f_X9_isBetween σ p2 (0 : Int32) (39 : Int32)).bind fun v171 =>
              (if v171 = 0 then
                some (0 : Int32)
              else
                (if p0 = (11 : Int32) then
                  (f_X9_isRegister σ p3).bind fun v184 =>
                  (if v184 = 0 then
                    some (0 : Int32)
                  else
                    J_X9_isInstruction_197 σ)
                else
                  (if p3 = 0 then
                    J_X9_isInstruction_197 σ
                  else
                    some (0 : Int32))))
            else
              some (0 : Int32)))))
    else
      (f_X9_isRegister σ p1).bind fun v53 =>
      (if v53 = 0 then
        some (0 : Int32)
      else
        (f_X9_isRegister σ p2).bind fun v60 =>
        (if v60 = 0 then
          some (0 : Int32)
        else
          (f_X9_isRegister σ p3).bind fun v67 =>
          (if v67 = 0 then
            some (0 : Int32)
          else
            some (1 : Int32)))))))
/-! SlotBundlerModel.put -/
def f_X9_put (σ : sg) (p1 : Int32) (p2 : Int32) (p3 : Int32) (p4 : Int32) (p5 : Int32) : Option sg :=
  (ldr 158 p1).bind fun q5 =>
(st σ q5 (0 : Int32) p2).bind fun s8 =>
(ldr 158 p1).bind fun q14 =>
(st s8 q14 (1 : Int32) p3).bind fun s17 =>
(ldr 158 p1).bind fun q23 =>
(st s17 q23 (2 : Int32) p4).bind fun s27 =>
(ldr 158 p1).bind fun q33 =>
(st s27 q33 (3 : Int32) p5).bind fun s37 =>
some s37
/-! SlotBundlerModel.add -/
def f_X9_add (σ : sg) (p1 : Int32) (p2 : Int32) (p3 : Int32) (p4 : Int32) : Option (Int32 × sg) :=
  (f_X9_isInstruction σ p1 p2 p3 p4).bind fun v5 =>
(if v5 = 0 then
  some ((-2 : Int32), σ)
else
  (if (σ 157 16) = 0 then
    (if (σ 157 0) = (40 : Int32) then
      some ((-3 : Int32), σ)
    else
      (f_X9_remember σ ).bind fun s37 =>
      (f_X9_put s37 (s37 157 0) p1 p2 p3 p4).bind fun s50 =>
      (some (up s50 157 0 ((s50 157 0) + (1 : Int32)))).bind fun s60 =>
      some ((s60 157 0) - (1 : Int32), s60))
  else
    some ((-5 : Int32), σ)))
/-! SlotBundlerModel.isThere -/
def f_X9_isThere (σ : sg) (p1 : Int32) : Option Int32 :=
  (f_X9_isBetween σ p1 (0 : Int32) ((σ 157 0) - (1 : Int32))).bind fun v8 =>
(if v8 = 0 ∨ v8 = 1 then some v8 else none)
/-! SlotBundlerModel.set -/
def f_X9_set (σ : sg) (p1 : Int32) (p2 : Int32) (p3 : Int32) (p4 : Int32) (p5 : Int32) : Option (Int32 × sg) :=
  (f_X9_isThere σ p1).bind fun v2 =>
(if v2 = 0 then
  some ((-1 : Int32), σ)
else
  (f_X9_isInstruction σ p2 p3 p4 p5).bind fun v16 =>
  (if v16 = 0 then
    some ((-2 : Int32), σ)
  else
    (if (σ 157 16) = 0 then
      (f_X9_remember σ ).bind fun s36 =>
      (ldr 158 p1).bind fun q44 =>
      (ld s36 q44 (0 : Int32)).bind fun v46 =>
      (f_X9_put s36 p1 p2 p3 p4 p5).bind fun s57 =>
      some (v46, s57)
    else
      some ((-5 : Int32), σ))))
/-! SlotBundlerModel.removeLast -/
def f_X9_removeLast (σ : sg)  : Option (Int32 × sg) :=
  (if (σ 157 16) = 0 then
  (if (σ 157 0) = 0 then
    some ((-4 : Int32), σ)
  else
    (f_X9_remember σ ).bind fun s21 =>
    (some (up s21 157 0 ((s21 157 0) - (1 : Int32)))).bind fun s31 =>
    some (s31 157 0, s31))
else
  some ((-5 : Int32), σ))
/-! SlotBundlerModel.size -/
def f_X9_size (σ : sg)  : Option Int32 :=
  some (σ 157 0)
/-! SlotBundlerModel.part -/
def f_X9_part (σ : sg) (p1 : Int32) (p2 : Int32) : Option Int32 :=
  (f_X9_isThere σ p1).bind fun v2 =>
(if v2 = 0 then
  some (-1 : Int32)
else
  (f_X9_isBetween σ p2 (0 : Int32) (3 : Int32)).bind fun v13 =>
  (if v13 = 0 then
    some (-2 : Int32)
  else
    (ldr 158 p1).bind fun q24 =>
    (ld σ q24 p2).bind fun v26 =>
    some (v26 + (1000 : Int32))))
/-! SlotBundlerModel.undo -/
def f_X9_undo (σ : sg)  : Option (Int32 × sg) :=
  (if (σ 157 16) = 0 then
  (if (σ 157 4) = 0 then
    some ((-4 : Int32), σ)
  else
    (some (up σ 157 4 ((σ 157 4) - (1 : Int32)))).bind fun s27 =>
    (ld s27 610 (s27 157 4)).bind fun v39 =>
    (some (up s27 157 0 v39)).bind fun s40 =>
    (ldr 199 (s40 157 4)).bind fun q51 =>
    (f_X9_copy s40 q51 158).bind fun s56 =>
    some (s56 157 4, s56))
else
  some ((-5 : Int32), σ))
/-! SlotBundlerModel.operation -/
def f_X9_operation (σ : sg) (p1 : Int32) : Option Int32 :=
  (ldr 158 p1).bind fun q5 =>
(ld σ q5 (0 : Int32)).bind fun v7 =>
some v7
/-! SlotBundlerModel.isExit -/
def f_X9_isExit (σ : sg) (p1 : Int32) : Option Int32 :=
  (f_X9_operation σ p1).bind fun v2 =>
(if v2 < (10 : Int32) then
  some (0 : Int32)
else
  some (1 : Int32))
/-! SlotBundlerModel.hasTarget -/
def J_X9_hasTarget_20 (σ : sg) : Option Int32 :=
  some (1 : Int32)
def f_X9_hasTarget (σ : sg) (p1 : Int32) : Option Int32 :=
  (f_X9_operation σ p1).bind fun v2 =>
(if v2 = (10 : Int32) then
  J_X9_hasTarget_20 σ
else
  (f_X9_operation σ p1).bind fun v12 =>
  (if v12 = (11 : Int32) then
    J_X9_hasTarget_20 σ
  else
    some (0 : Int32)))
/-! SlotBundlerModel.latency -/
def f_X9_latency (σ : sg) (p1 : Int32) : Option Int32 :=
  (f_X9_operation σ p1).bind fun v2 =>
(if v2 = (7 : Int32) then
  some (3 : Int32)
else
  (f_X9_operation σ p1).bind fun v16 =>
  (if v16 = (8 : Int32) then
    some (2 : Int32)
  else
    some (1 : Int32)))
/-! SlotBundlerModel.written -/
def f_X9_written (σ : sg) (p1 : Int32) : Option Int32 :=
  (f_X9_operation σ p1).bind fun v2 =>
(if (8 : Int32) < v2 then
  some (-1 : Int32)
else
  (ldr 158 p1).bind fun q15 =>
  (ld σ q15 (1 : Int32)).bind fun v17 =>
  some v17)
/-! SlotBundlerModel.reads -/
def J_X9_reads_88 (σ : sg) : Option Int32 :=
  some (1 : Int32)
def J_X9_reads_76 (σ : sg) (x4 : Int32) (t0 : Int32) : Option Int32 :=
  (if x4 = 0 then
  (if t0 = 0 then
    some (0 : Int32)
  else
    J_X9_reads_88 σ)
else
  J_X9_reads_88 σ)
def J_X9_reads_75 (σ : sg) (x4 : Int32) : Option Int32 :=
  J_X9_reads_76 σ x4 (0 : Int32)
def J_X9_reads_59 (σ : sg) (p1 : Int32) (p2 : Int32) (x4 : Int32) : Option Int32 :=
  (ldr 158 p1).bind fun q64 =>
(ld σ q64 (3 : Int32)).bind fun v66 =>
(if v66 = p2 then
  J_X9_reads_76 σ x4 (1 : Int32)
else
  J_X9_reads_75 σ x4)
def J_X9_reads_47 (σ : sg) (p1 : Int32) (p2 : Int32) (x3 : Int32) (x4 : Int32) : Option Int32 :=
  (if x3 = (9 : Int32) then
  J_X9_reads_59 σ p1 p2 x4
else
  (if x3 = (11 : Int32) then
    J_X9_reads_59 σ p1 p2 x4
  else
    J_X9_reads_75 σ x4))
def J_X9_reads_34 (σ : sg) (p1 : Int32) (p2 : Int32) (x3 : Int32) (t0 : Int32) : Option Int32 :=
  (if x3 < (1 : Int32) then
  J_X9_reads_47 σ p1 p2 x3 t0
else
  (if x3 ≤ (7 : Int32) then
    J_X9_reads_59 σ p1 p2 t0
  else
    J_X9_reads_47 σ p1 p2 x3 t0))
def J_X9_reads_33 (σ : sg) (p1 : Int32) (p2 : Int32) (x3 : Int32) : Option Int32 :=
  J_X9_reads_34 σ p1 p2 x3 (0 : Int32)
def f_X9_reads (σ : sg) (p1 : Int32) (p2 : Int32) : Option Int32 :=
  (f_X9_operation σ p1).bind fun v2 =>
(if v2 < (1 : Int32) then
  J_X9_reads_33 σ p1 p2 v2
else
  (if (9 : Int32) < v2 then
    J_X9_reads_33 σ p1 p2 v2
  else
    (ldr 158 p1).bind fun q22 =>
    (ld σ q22 (2 : Int32)).bind fun v24 =>
    (if v24 = p2 then
      J_X9_reads_34 σ p1 p2 v2 (1 : Int32)
    else
      J_X9_reads_33 σ p1 p2 v2)))
/-! SlotBundlerModel.distanceOf -/
def J_X9_distanceOf_181 (σ : sg) (x3 : Int32) (t0 : Int32) : Option Int32 :=
  (if t0 = 0 then
  some x3
else
  (if 0 ≤ x3 then
    some x3
  else
    some (0 : Int32)))
def J_X9_distanceOf_176 (σ : sg) (x3 : Int32) : Option Int32 :=
  J_X9_distanceOf_181 σ x3 (1 : Int32)
def J_X9_distanceOf_168 (σ : sg) (p2 : Int32) (x3 : Int32) : Option Int32 :=
  (f_X9_isExit σ p2).bind fun v170 =>
(if v170 = 0 then
  J_X9_distanceOf_181 σ x3 (0 : Int32)
else
  J_X9_distanceOf_176 σ x3)
def J_X9_distanceOf_148 (σ : sg) (p1 : Int32) (p2 : Int32) (x3 : Int32) : Option Int32 :=
  (f_X9_operation σ p1).bind fun v150 =>
(if v150 = (8 : Int32) then
  (f_X9_operation σ p2).bind fun v160 =>
  (if v160 = (9 : Int32) then
    J_X9_distanceOf_176 σ x3
  else
    J_X9_distanceOf_168 σ p2 x3)
else
  J_X9_distanceOf_168 σ p2 x3)
def J_X9_distanceOf_133 (σ : sg) (p1 : Int32) (p2 : Int32) (x3 : Int32) (x5 : Int32) : Option Int32 :=
  (if x5 < 0 then
  J_X9_distanceOf_148 σ p1 p2 x3
else
  (f_X9_reads σ p1 x5).bind fun v142 =>
  (if v142 = 0 then
    J_X9_distanceOf_148 σ p1 p2 x3
  else
    J_X9_distanceOf_176 σ x3))
def J_X9_distanceOf_132 (σ : sg) (p1 : Int32) (p2 : Int32) (x5 : Int32) (t0 : Int32) : Option Int32 :=
  J_X9_distanceOf_133 σ p1 p2 t0 x5
def J_X9_distanceOf_122 (σ : sg) (p1 : Int32) (p2 : Int32) (x3 : Int32) (x5 : Int32) : Option Int32 :=
  (if (1 : Int32) ≤ x3 then
  J_X9_distanceOf_132 σ p1 p2 x5 x3
else
  J_X9_distanceOf_132 σ p1 p2 x5 (1 : Int32))
def J_X9_distanceOf_92 (σ : sg) (p1 : Int32) (p2 : Int32) (x3 : Int32) (x5 : Int32) : Option Int32 :=
  (f_X9_operation σ p1).bind fun v94 =>
(if v94 = (9 : Int32) then
  (f_X9_operation σ p2).bind fun v104 =>
  (if v104 = (9 : Int32) then
    J_X9_distanceOf_122 σ p1 p2 x3 x5
  else
    (f_X9_operation σ p2).bind fun v114 =>
    (if v114 = (8 : Int32) then
      J_X9_distanceOf_122 σ p1 p2 x3 x5
    else
      J_X9_distanceOf_133 σ p1 p2 x3 x5))
else
  J_X9_distanceOf_133 σ p1 p2 x3 x5)
def J_X9_distanceOf_91 (σ : sg) (p1 : Int32) (p2 : Int32) (x5 : Int32) (t0 : Int32) : Option Int32 :=
  J_X9_distanceOf_92 σ p1 p2 t0 x5
def J_X9_distanceOf_77 (σ : sg) (p1 : Int32) (p2 : Int32) (x3 : Int32) (x5 : Int32) (t0 : Int32) : Option Int32 :=
  (if t0 ≤ x3 then
  J_X9_distanceOf_91 σ p1 p2 x5 x3
else
  J_X9_distanceOf_91 σ p1 p2 x5 t0)
def J_X9_distanceOf_38 (σ : sg) (p1 : Int32) (p2 : Int32) (x3 : Int32) (x4 : Int32) (x5 : Int32) : Option Int32 :=
  (if x4 < 0 then
  J_X9_distanceOf_92 σ p1 p2 x3 x5
else
  (if x4 = x5 then
    (f_X9_latency σ p1).bind fun v52 =>
    (f_X9_latency σ p2).bind fun v57 =>
    (if (1 : Int32) ≤ ((v52 - v57) + (1 : Int32)) then
      J_X9_distanceOf_77 σ p1 p2 x3 x5 ((v52 - v57) + (1 : Int32))
    else
      J_X9_distanceOf_77 σ p1 p2 x3 x5 (1 : Int32))
  else
    J_X9_distanceOf_92 σ p1 p2 x3 x5))
def f_X9_distanceOf (σ : sg) (p1 : Int32) (p2 : Int32) : Option Int32 :=
  (f_X9_written σ p1).bind fun v5 =>
(f_X9_written σ p2).bind fun v12 =>
(if v5 < 0 then
  J_X9_distanceOf_38 σ p1 p2 (-4 : Int32) v5 v12
else
  (f_X9_reads σ p2 v5).bind fun v26 =>
  (if v26 = 0 then
    J_X9_distanceOf_38 σ p1 p2 (-4 : Int32) v5 v12
  else
    (f_X9_latency σ p1).bind fun v34 =>
    J_X9_distanceOf_38 σ p1 p2 v34 v5 v12))
/-! SlotBundlerModel.isComplete -/
def J_X9_isComplete_41 (σ : sg) (x2 : Int32) (t0 : Int32) (t1 : Int32) : Option ((Int32 × Int32) ⊕ Int32) :=
  some (.inl (t1 &&& t0, x2 + (1 : Int32)))
def J_X9_isComplete_36 (σ : sg) (x2 : Int32) (t0 : Int32) : Option ((Int32 × Int32) ⊕ Int32) :=
  J_X9_isComplete_41 σ x2 (1 : Int32) t0
def B_X9_isComplete_4 (σ : sg) (x1 : Int32) (x2 : Int32) : Option ((Int32 × Int32) ⊕ Int32) :=
  (if (σ 157 0) ≤ x2 then
  (if x1 = 0 ∨ x1 = 1 then some (.inr x1) else none)
else
  (f_X9_hasTarget σ x2).bind fun v15 =>
  (if v15 = 0 then
    J_X9_isComplete_36 σ x2 x1
  else
    (ldr 158 x2).bind fun q26 =>
    (ld σ q26 (2 : Int32)).bind fun v28 =>
    (if (σ 157 0) ≤ v28 then
      J_X9_isComplete_41 σ x2 (0 : Int32) x1
    else
      J_X9_isComplete_36 σ x2 x1)))
def L_X9_isComplete_4 (σ : sg) (n : Nat) (a : (Int32 × Int32)) : Option Int32 := g_loop (fun a => B_X9_isComplete_4 σ a.1 a.2) n a
def f_X9_isComplete (σ : sg)  : Option Int32 :=
  L_X9_isComplete_4 σ gN ((1 : Int32), (0 : Int32))
/-! SlotBundlerModel.beginsBlock -/
def J_X9_beginsBlock_56 (σ : sg) (p1 : Int32) (x3 : Int32) (t0 : Int32) (t1 : Int32) : Option ((Int32 × Int32) ⊕ Int32) :=
  some (.inl (t1 ||| t0, x3 + (1 : Int32)))
def J_X9_beginsBlock_55 (σ : sg) (p1 : Int32) (x3 : Int32) (t0 : Int32) : Option ((Int32 × Int32) ⊕ Int32) :=
  J_X9_beginsBlock_56 σ p1 x3 (0 : Int32) t0
def B_X9_beginsBlock_22 (σ : sg) (p1 : Int32) (x2 : Int32) (x3 : Int32) : Option ((Int32 × Int32) ⊕ Int32) :=
  (if (σ 157 0) ≤ x3 then
  (if x2 = 0 ∨ x2 = 1 then some (.inr x2) else none)
else
  (f_X9_hasTarget σ x3).bind fun v33 =>
  (if v33 = 0 then
    J_X9_beginsBlock_55 σ p1 x3 x2
  else
    (ldr 158 x3).bind fun q44 =>
    (ld σ q44 (2 : Int32)).bind fun v46 =>
    (if v46 = p1 then
      J_X9_beginsBlock_56 σ p1 x3 (1 : Int32) x2
    else
      J_X9_beginsBlock_55 σ p1 x3 x2)))
def L_X9_beginsBlock_22 (σ : sg) (p1 : Int32) (n : Nat) (a : (Int32 × Int32)) : Option Int32 := g_loop (fun a => B_X9_beginsBlock_22 σ p1 a.1 a.2) n a
def J_X9_beginsBlock_19 (σ : sg) (p1 : Int32) (t0 : Int32) : Option Int32 :=
  L_X9_beginsBlock_22 σ p1 gN (t0, (0 : Int32))
def J_X9_beginsBlock_14 (σ : sg) (p1 : Int32) : Option Int32 :=
  J_X9_beginsBlock_19 σ p1 (1 : Int32)
def f_X9_beginsBlock (σ : sg) (p1 : Int32) : Option Int32 :=
  (if p1 = 0 then
  J_X9_beginsBlock_14 σ p1
else
  (f_X9_isExit σ (p1 - (1 : Int32))).bind fun v8 =>
  (if v8 = 0 then
    J_X9_beginsBlock_19 σ p1 (0 : Int32)
  else
    J_X9_beginsBlock_14 σ p1))
/-! SlotBundlerModel.findBlocks -/
def J_X9_findBlocks_43 (x1 : Int32) (σ : sg) : Option ((Int32 × sg) ⊕ sg) :=
  (st σ 611 x1 ((σ 157 7) - (1 : Int32))).bind fun s54 =>
some (.inl (x1 + (1 : Int32), s54))
def B_X9_findBlocks_7 (x1 : Int32) (σ : sg) : Option ((Int32 × sg) ⊕ sg) :=
  (if (σ 157 0) ≤ x1 then
  (st σ 612 (σ 157 7) (σ 157 0)).bind fun s73 =>
  some (.inr s73)
else
  (f_X9_beginsBlock σ x1).bind fun v17 =>
  (if v17 = 0 then
    J_X9_findBlocks_43 x1 σ
  else
    (st σ 612 (σ 157 7) x1).bind fun s32 =>
    (some (up s32 157 7 ((s32 157 7) + (1 : Int32)))).bind fun s40 =>
    J_X9_findBlocks_43 x1 s40))
def L_X9_findBlocks_7  (n : Nat) (a : (Int32 × sg)) : Option sg := g_loop (fun a => B_X9_findBlocks_7 a.1 a.2) n a
def f_X9_findBlocks (σ : sg)  : Option sg :=
  (some (up σ 157 7 (0 : Int32))).bind fun s2 =>
L_X9_findBlocks_7  gN ((0 : Int32), s2)
/-! SlotBundlerModel.blockCount -/
def f_X9_blockCount (σ : sg)  : Option (Int32 × sg) :=
  (f_X9_isComplete σ ).bind fun v1 =>
(if v1 = 0 then
  some ((-6 : Int32), σ)
else
  (f_X9_findBlocks σ ).bind fun s11 =>
  some (s11 157 7, s11))
/-! SlotBundlerModel.blockOf -/
def f_X9_blockOf (σ : sg) (p1 : Int32) : Option (Int32 × sg) :=
  (f_X9_isThere σ p1).bind fun v2 =>
(if v2 = 0 then
  some ((-1 : Int32), σ)
else
  (f_X9_isComplete σ ).bind fun v11 =>
  (if v11 = 0 then
    some ((-6 : Int32), σ)
  else
    (f_X9_findBlocks σ ).bind fun s21 =>
    (ld s21 611 p1).bind fun v29 =>
    some (v29, s21)))
/-! SlotBundlerModel.blockBegin -/
def f_X9_blockBegin (σ : sg) (p1 : Int32) : Option (Int32 × sg) :=
  (f_X9_isComplete σ ).bind fun v1 =>
(if v1 = 0 then
  some ((-6 : Int32), σ)
else
  (f_X9_findBlocks σ ).bind fun s11 =>
  (f_X9_isBetween s11 p1 (0 : Int32) ((s11 157 7) - (1 : Int32))).bind fun v22 =>
  (if v22 = 0 then
    some ((-1 : Int32), s11)
  else
    (ld s11 612 p1).bind fun v33 =>
    some (v33, s11)))
/-! SlotBundlerModel.distance -/
def J_X9_distance_52 (σ : sg) : Option (Int32 × sg) :=
  some ((-2 : Int32), σ)
def f_X9_distance (σ : sg) (p1 : Int32) (p2 : Int32) : Option (Int32 × sg) :=
  (f_X9_isThere σ p1).bind fun v2 =>
(if v2 = 0 then
  some ((-1 : Int32), σ)
else
  (f_X9_isThere σ p2).bind fun v10 =>
  (if v10 = 0 then
    some ((-1 : Int32), σ)
  else
    (f_X9_isComplete σ ).bind fun v19 =>
    (if v19 = 0 then
      some ((-6 : Int32), σ)
    else
      (f_X9_findBlocks σ ).bind fun s29 =>
      (if p2 ≤ p1 then
        J_X9_distance_52 s29
      else
        (ld s29 611 p1).bind fun v42 =>
        (ld s29 611 p2).bind fun v48 =>
        (if v42 = v48 then
          (f_X9_distanceOf s29 p1 p2).bind fun v60 =>
          some (v60, s29)
        else
          J_X9_distance_52 s29)))))
/-! SlotBundlerModel.isType -/
def f_X9_isType (σ : sg) (p0 : Int32) : Option Int32 :=
  (f_X9_isBetween σ p0 (0 : Int32) (3 : Int32)).bind fun v3 =>
(if v3 = 0 ∨ v3 = 1 then some v3 else none)
/-! SlotBundlerModel.addTemplate -/
def f_X9_addTemplate (σ : sg) (p1 : Int32) (p2 : Int32) (p3 : Int32) (p4 : Int32) : Option (Int32 × sg) :=
  (f_X9_isType σ p1).bind fun v1 =>
(if v1 = 0 then
  some ((-2 : Int32), σ)
else
  (f_X9_isType σ p2).bind fun v8 =>
  (if v8 = 0 then
    some ((-2 : Int32), σ)
  else
    (f_X9_isType σ p3).bind fun v15 =>
    (if v15 = 0 then
      some ((-2 : Int32), σ)
    else
      (f_X9_isBetween σ p4 (0 : Int32) (7 : Int32)).bind fun v26 =>
      (if v26 = 0 then
        some ((-2 : Int32), σ)
      else
        (if (σ 157 16) = 0 then
          (if (σ 157 8) = (8 : Int32) then
            some ((-3 : Int32), σ)
          else
            (ldr 613 (σ 157 8)).bind fun q65 =>
            (st σ q65 (0 : Int32) p1).bind fun s68 =>
            (ldr 613 (s68 157 8)).bind fun q77 =>
            (st s68 q77 (1 : Int32) p2).bind fun s80 =>
            (ldr 613 (s80 157 8)).bind fun q89 =>
            (st s80 q89 (2 : Int32) p3).bind fun s92 =>
            (st s92 622 (s92 157 8) p4).bind fun s103 =>
            (some (up s103 157 8 ((s103 157 8) + (1 : Int32)))).bind fun s111 =>
            some ((s111 157 8) - (1 : Int32), s111))
        else
          some ((-5 : Int32), σ))))))
/-! SlotBundlerModel.clearTemplates -/
def f_X9_clearTemplates (σ : sg)  : Option (Int32 × sg) :=
  (if (σ 157 16) = 0 then
  (some (up σ 157 8 (0 : Int32))).bind fun s17 =>
  some (σ 157 8, s17)
else
  some ((-5 : Int32), σ))
/-! SlotBundlerModel.templateCount -/
def f_X9_templateCount (σ : sg)  : Option Int32 :=
  some (σ 157 8)
/-! SlotBundlerModel.template -/
def f_X9_template (σ : sg) (p1 : Int32) (p2 : Int32) : Option Int32 :=
  (f_X9_isBetween σ p1 (0 : Int32) ((σ 157 8) - (1 : Int32))).bind fun v8 =>
(if v8 = 0 then
  some (-1 : Int32)
else
  (f_X9_isBetween σ p2 (0 : Int32) (3 : Int32)).bind fun v19 =>
  (if v19 = 0 then
    some (-2 : Int32)
  else
    (if p2 = (3 : Int32) then
      (ld σ 622 p1).bind fun v40 =>
      some v40
    else
      (ldr 613 p1).bind fun q49 =>
      (ld σ q49 p2).bind fun v51 =>
      some v51)))
/-! SlotBundlerModel.countMarks -/
def f_X9_countMarks (σ : sg) (p0 : Int32) : Option Int32 :=
  some (((p0 &&& (1 : Int32)) + ((p0 >>> ((1 : Int32) &&& 31)) &&& (1 : Int32))) + ((p0 >>> ((2 : Int32) &&& 31)) &&& (1 : Int32)))
/-! SlotBundlerModel.fits -/
def f_X9_fits (σ : sg) (p1 : Int32) (p2 : Int32) : Option Int32 :=
  (f_X9_operation σ p1).bind fun v2 =>
(if (7 : Int32) ≤ v2 then
  (if v2 = (7 : Int32) then
    (if p2 = (2 : Int32) then
      some (1 : Int32)
    else
      some (0 : Int32))
  else
    (if v2 < (10 : Int32) then
      (if p2 = 0 then
        some (1 : Int32)
      else
        some (0 : Int32))
    else
      (if p2 = (3 : Int32) then
        some (1 : Int32)
      else
        some (0 : Int32))))
else
  (if (1 : Int32) < p2 then
    some (0 : Int32)
  else
    some (1 : Int32)))
/-! SlotBundlerModel.isReady -/
def J_X9_isReady_55 (σ : sg) (p1 : Int32) (p2 : Int32) (x4 : Int32) (t0 : Int32) (t1 : Int32) : Option ((Int32 × Int32) ⊕ Int32) :=
  some (.inl (t1 &&& t0, x4 + (1 : Int32)))
def J_X9_isReady_50 (σ : sg) (p1 : Int32) (p2 : Int32) (x4 : Int32) (t0 : Int32) : Option ((Int32 × Int32) ⊕ Int32) :=
  J_X9_isReady_55 σ p1 p2 x4 (1 : Int32) t0
def B_X9_isReady_15 (σ : sg) (p1 : Int32) (p2 : Int32) (x3 : Int32) (x4 : Int32) : Option ((Int32 × Int32) ⊕ Int32) :=
  (if p1 ≤ x4 then
  (if x3 = 0 ∨ x3 = 1 then some (.inr x3) else none)
else
  (f_X9_distanceOf σ x4 p1).bind fun v25 =>
  (if v25 < 0 then
    J_X9_isReady_50 σ p1 p2 x4 x3
  else
    (ld σ 623 x4).bind fun v42 =>
    (if p2 < (v42 + v25) then
      J_X9_isReady_55 σ p1 p2 x4 (0 : Int32) x3
    else
      J_X9_isReady_50 σ p1 p2 x4 x3)))
def L_X9_isReady_15 (σ : sg) (p1 : Int32) (p2 : Int32) (n : Nat) (a : (Int32 × Int32)) : Option Int32 := g_loop (fun a => B_X9_isReady_15 σ p1 p2 a.1 a.2) n a
def f_X9_isReady (σ : sg) (p1 : Int32) (p2 : Int32) : Option Int32 :=
  (ld σ 611 p1).bind fun v11 =>
(ld σ 612 v11).bind fun v12 =>
L_X9_isReady_15 σ p1 p2 gN ((1 : Int32), v12)
/-! SlotBundlerModel.fill -/
def J_X9_fill_159 (p1 : Int32) (p4 : Int32) (x5 : Int32) (t0 : Int32) (t1 : Int32) (σ : sg) : Option ((Int32 × sg) ⊕ sg) :=
  (some (up σ 157 14 (t1 + t0))).bind fun s160 =>
some (.inl (x5 + (1 : Int32), s160))
def J_X9_fill_134 (p1 : Int32) (p4 : Int32) (x5 : Int32) (σ : sg) : Option ((Int32 × sg) ⊕ sg) :=
  (ld σ 622 p1).bind fun v144 =>
(if ((v144 >>> (x5 &&& 31)) &&& (1 : Int32)) = (1 : Int32) then
  J_X9_fill_159 p1 p4 x5 (1 : Int32) (σ 157 14) σ
else
  J_X9_fill_159 p1 p4 x5 (0 : Int32) (σ 157 14) σ)
def J_X9_fill_95 (p1 : Int32) (p4 : Int32) (x5 : Int32) (x6 : Int32) (t0 : Int32) (t1 : Int32) (t2 : Nat) (σ : sg) : Option ((Int32 × sg) ⊕ sg) :=
  (st σ t2 t1 t0).bind fun s95 =>
(if x6 = 0 then
  J_X9_fill_134 p1 p4 x5 s95
else
  (st s95 623 (s95 157 13) (s95 157 14)).bind fun s113 =>
  (some (up s113 157 13 ((s113 157 13) + (1 : Int32)))).bind fun s121 =>
  (some (up s121 157 15 ((s121 157 15) + (1 : Int32)))).bind fun s131 =>
  J_X9_fill_134 p1 p4 x5 s131)
def J_X9_fill_73 (p1 : Int32) (p4 : Int32) (x5 : Int32) (t0 : Int32) (σ : sg) : Option ((Int32 × sg) ⊕ sg) :=
  (if t0 = 0 then
  J_X9_fill_95 p1 p4 x5 t0 (-4 : Int32) x5 624 σ
else
  J_X9_fill_95 p1 p4 x5 t0 (σ 157 13) x5 624 σ)
def J_X9_fill_72 (p1 : Int32) (p4 : Int32) (x5 : Int32) (σ : sg) : Option ((Int32 × sg) ⊕ sg) :=
  J_X9_fill_73 p1 p4 x5 (0 : Int32) σ
def B_X9_fill_18 (p1 : Int32) (p4 : Int32) (x5 : Int32) (σ : sg) : Option ((Int32 × sg) ⊕ sg) :=
  (if (3 : Int32) ≤ x5 then
  some (.inr σ)
else
  (if p4 ≤ (σ 157 13) then
    J_X9_fill_72 p1 p4 x5 σ
  else
    (ldr 613 p1).bind fun q43 =>
    (ld σ q43 x5).bind fun v46 =>
    (f_X9_fits σ (σ 157 13) v46).bind fun v47 =>
    (if v47 = 0 then
      J_X9_fill_72 p1 p4 x5 σ
    else
      (f_X9_isReady σ (σ 157 13) (σ 157 14)).bind fun v62 =>
      (if v62 = 0 then
        J_X9_fill_72 p1 p4 x5 σ
      else
        J_X9_fill_73 p1 p4 x5 (1 : Int32) σ))))
def L_X9_fill_18 (p1 : Int32) (p4 : Int32) (n : Nat) (a : (Int32 × sg)) : Option sg := g_loop (fun a => B_X9_fill_18 p1 p4 a.1 a.2) n a
def f_X9_fill (σ : sg) (p1 : Int32) (p2 : Int32) (p3 : Int32) (p4 : Int32) : Option sg :=
  (some (up σ 157 13 p2)).bind fun s2 =>
(some (up s2 157 14 p3)).bind fun s7 =>
(some (up s7 157 15 (0 : Int32))).bind fun s12 =>
L_X9_fill_18 p1 p4 gN ((0 : Int32), s12)
/-! SlotBundlerModel.chosen -/
def J_X9_chosen_144 (p1 : Int32) (p2 : Int32) (p3 : Int32) (x4 : Int32) (x6 : Int32) (t0 : Int32) (σ : sg) : Option ((Int32 × Int32 × Int32 × sg) ⊕ (Int32 × sg)) :=
  some (.inl (x4, t0, x6 + (1 : Int32), σ))
def J_X9_chosen_128 (p1 : Int32) (p2 : Int32) (p3 : Int32) (x5 : Int32) (x6 : Int32) (x8 : Int32) (t0 : Int32) (σ : sg) : Option ((Int32 × Int32 × Int32 × sg) ⊕ (Int32 × sg)) :=
  (if x8 = 0 then
  J_X9_chosen_144 p1 p2 p3 t0 x6 x5 σ
else
  J_X9_chosen_144 p1 p2 p3 t0 x6 (σ 157 15) σ)
def J_X9_chosen_116 (p1 : Int32) (p2 : Int32) (p3 : Int32) (x4 : Int32) (x5 : Int32) (x6 : Int32) (x8 : Int32) (σ : sg) : Option ((Int32 × Int32 × Int32 × sg) ⊕ (Int32 × sg)) :=
  (if x8 = 0 then
  J_X9_chosen_128 p1 p2 p3 x5 x6 x8 x4 σ
else
  J_X9_chosen_128 p1 p2 p3 x5 x6 x8 x6 σ)
def J_X9_chosen_114 (p1 : Int32) (p2 : Int32) (p3 : Int32) (x4 : Int32) (x5 : Int32) (x6 : Int32) (t0 : Int32) (σ : sg) : Option ((Int32 × Int32 × Int32 × sg) ⊕ (Int32 × sg)) :=
  J_X9_chosen_116 p1 p2 p3 x4 x5 x6 t0 σ
def J_X9_chosen_53 (p1 : Int32) (p2 : Int32) (p3 : Int32) (x4 : Int32) (x5 : Int32) (x6 : Int32) (x7 : Int32) (t0 : Int32) (σ : sg) : Option ((Int32 × Int32 × Int32 × sg) ⊕ (Int32 × sg)) :=
  (if (σ 157 15) = x5 then
  (if (σ 157 15) ≤ 0 then
    (ld σ 622 x4).bind fun v102 =>
    (f_X9_countMarks σ v102).bind fun v103 =>
    (if x7 ≤ v103 then
      J_X9_chosen_114 p1 p2 p3 x4 x5 x6 (0 : Int32) σ
    else
      J_X9_chosen_114 p1 p2 p3 x4 x5 x6 (1 : Int32) σ)
  else
    (ld σ 622 x4).bind fun v79 =>
    (f_X9_countMarks σ v79).bind fun v80 =>
    (if v80 ≤ x7 then
      J_X9_chosen_114 p1 p2 p3 x4 x5 x6 (0 : Int32) σ
    else
      J_X9_chosen_114 p1 p2 p3 x4 x5 x6 (1 : Int32) σ))
else
  J_X9_chosen_116 p1 p2 p3 x4 x5 x6 t0 σ)
def B_X9_chosen_9 (p1 : Int32) (p2 : Int32) (p3 : Int32) (x4 : Int32) (x5 : Int32) (x6 : Int32) (σ : sg) : Option ((Int32 × Int32 × Int32 × sg) ⊕ (Int32 × sg)) :=
  (if (σ 157 8) ≤ x6 then
  some (.inr (x4, σ))
else
  (f_X9_fill σ x6 p1 p2 p3).bind fun s24 =>
  (ld s24 622 x6).bind fun v33 =>
  (f_X9_countMarks s24 v33).bind fun v34 =>
  (if (s24 157 15) ≤ x5 then
    J_X9_chosen_53 p1 p2 p3 x4 x5 x6 v34 (0 : Int32) s24
  else
    J_X9_chosen_53 p1 p2 p3 x4 x5 x6 v34 (1 : Int32) s24))
def L_X9_chosen_9 (p1 : Int32) (p2 : Int32) (p3 : Int32) (n : Nat) (a : (Int32 × Int32 × Int32 × sg)) : Option (Int32 × sg) := g_loop (fun a => B_X9_chosen_9 p1 p2 p3 a.1 a.2.1 a.2.2.1 a.2.2.2) n a
def f_X9_chosen (σ : sg) (p1 : Int32) (p2 : Int32) (p3 : Int32) : Option (Int32 × sg) :=
  L_X9_chosen_9 p1 p2 p3 gN ((-1 : Int32), (-1 : Int32), (0 : Int32), σ)
/-! SlotBundlerModel.packBlock -/
def J_X9_packBlock_181 (p1 : Int32) (x3 : Int32) (x5 : Int32) (x6 : Int32) (σ : sg) : Option ((Int32 × sg) ⊕ ((Int32 × Int32 × sg) ⊕ (Int32 × sg))) :=
  some (.inl (x6 + (1 : Int32), σ))
def B_X9_packBlock_86 (p1 : Int32) (x3 : Int32) (x5 : Int32) (x6 : Int32) (σ : sg) : Option ((Int32 × sg) ⊕ ((Int32 × Int32 × sg) ⊕ (Int32 × sg))) :=
  (if (3 : Int32) ≤ x6 then
  (st σ 727 (σ 157 17) x5).bind fun s197 =>
  (st s197 728 (s197 157 17) p1).bind fun s207 =>
  (some (up s207 157 17 ((s207 157 17) + (1 : Int32)))).bind fun s215 =>
  some (.inr (.inl (s215 157 13, s215 157 14, s215)))
else
  (ldr 625 (σ 157 17)).bind fun q100 =>
  (ld σ 624 x6).bind fun v109 =>
  (st σ q100 x6 v109).bind fun s110 =>
  (ld s110 624 x6).bind fun v117 =>
  (if v117 < 0 then
    J_X9_packBlock_181 p1 x3 x5 x6 s110
  else
    (ld s110 624 x6).bind fun v131 =>
    (ldr 686 v131).bind fun q132 =>
    (st s110 q132 (0 : Int32) (s110 157 17)).bind fun s138 =>
    (ld s138 624 x6).bind fun v149 =>
    (ldr 686 v149).bind fun q150 =>
    (st s138 q150 (1 : Int32) x6).bind fun s154 =>
    (ld s154 624 x6).bind fun v165 =>
    (ldr 686 v165).bind fun q166 =>
    (ld s154 624 x6).bind fun v178 =>
    (ld s154 623 v178).bind fun v179 =>
    (st s154 q166 (2 : Int32) v179).bind fun s180 =>
    J_X9_packBlock_181 p1 x3 x5 x6 s180))
def L_X9_packBlock_86 (p1 : Int32) (x3 : Int32) (x5 : Int32) (n : Nat) (a : (Int32 × sg)) : Option ((Int32 × Int32 × sg) ⊕ (Int32 × sg)) := g_loop (fun a => B_X9_packBlock_86 p1 x3 x5 a.1 a.2) n a
def J_X9_packBlock_83 (p1 : Int32) (x3 : Int32) (x5 : Int32) (σ : sg) : Option ((Int32 × Int32 × sg) ⊕ (Int32 × sg)) :=
  L_X9_packBlock_86 p1 x3 x5 gN ((0 : Int32), σ)
def J_X9_packBlock_45 (p1 : Int32) (x2 : Int32) (x3 : Int32) (x4 : Int32) (t0 : Int32) (σ : sg) : Option ((Int32 × Int32 × sg) ⊕ (Int32 × sg)) :=
  (if 0 ≤ t0 then
  (f_X9_fill σ t0 x2 x4 x3).bind fun s61 =>
  (if (s61 157 15) = 0 then
    (ld s61 622 t0).bind fun v77 =>
    (if v77 = 0 then
      some (.inr ((0 : Int32), s61))
    else
      J_X9_packBlock_83 p1 x3 t0 s61)
  else
    J_X9_packBlock_83 p1 x3 t0 s61)
else
  some (.inr ((0 : Int32), σ)))
def B_X9_packBlock_19 (p1 : Int32) (x3 : Int32) (x2 : Int32) (x4 : Int32) (σ : sg) : Option ((Int32 × Int32 × sg) ⊕ (Int32 × sg)) :=
  (if x3 ≤ x2 then
  some (.inr ((1 : Int32), σ))
else
  (if (σ 157 17) = (60 : Int32) then
    J_X9_packBlock_45 p1 x2 x3 x4 (-1 : Int32) σ
  else
    (f_X9_chosen σ x2 x4 x3).bind fun q42 =>
    J_X9_packBlock_45 p1 x2 x3 x4 q42.1 q42.2))
def L_X9_packBlock_19 (p1 : Int32) (x3 : Int32) (n : Nat) (a : (Int32 × Int32 × sg)) : Option (Int32 × sg) := g_loop (fun a => B_X9_packBlock_19 p1 x3 a.1 a.2.1 a.2.2) n a
def f_X9_packBlock (σ : sg) (p1 : Int32) : Option (Int32 × sg) :=
  (ld σ 612 p1).bind fun v5 =>
(ld σ 612 (p1 + (1 : Int32))).bind fun v14 =>
L_X9_packBlock_19 p1 v14 gN (v5, (0 : Int32), σ)
/-! SlotBundlerModel.pack -/
def J_X9_pack_56 (σ : sg) : Option (Int32 × sg) :=
  (if (σ 157 16) = 0 then
  some ((-8 : Int32), σ)
else
  some (σ 157 17, σ))
def B_X9_pack_26 (x1 : Int32) (σ : sg) : Option ((Int32 × sg) ⊕ (Int32 × sg)) :=
  (if (σ 157 7) ≤ x1 then
  (J_X9_pack_56 σ).bind fun t => some (.inr t)
else
  (if (σ 157 16) = 0 then
    (J_X9_pack_56 σ).bind fun t => some (.inr t)
  else
    (f_X9_packBlock σ x1).bind fun q44 =>
    (if q44.1 = 0 ∨ q44.1 = 1 then
      (some (up q44.2 157 16 q44.1)).bind fun s47 =>
      some (.inl (x1 + (1 : Int32), s47))
    else none)))
def L_X9_pack_26  (n : Nat) (a : (Int32 × sg)) : Option (Int32 × sg) := g_loop (fun a => B_X9_pack_26 a.1 a.2) n a
def f_X9_pack (σ : sg)  : Option (Int32 × sg) :=
  (f_X9_isComplete σ ).bind fun v1 =>
(if v1 = 0 then
  some ((-6 : Int32), σ)
else
  (f_X9_findBlocks σ ).bind fun s11 =>
  (some (up s11 157 17 (0 : Int32))).bind fun s16 =>
  (some (up s16 157 16 (1 : Int32))).bind fun s21 =>
  L_X9_pack_26  gN ((0 : Int32), s21))
/-! SlotBundlerModel.unpack -/
def f_X9_unpack (σ : sg)  : Option (Int32 × sg) :=
  (if (σ 157 16) = 0 then
  some ((-5 : Int32), σ)
else
  (some (up σ 157 16 (0 : Int32))).bind fun s12 =>
  some (s12 157 17, s12))
/-! SlotBundlerModel.bundleCount -/
def f_X9_bundleCount (σ : sg)  : Option Int32 :=
  (if (σ 157 16) = 0 then
  some (-5 : Int32)
else
  some (σ 157 17))
/-! SlotBundlerModel.bundle -/
def f_X9_bundle (σ : sg) (p1 : Int32) (p2 : Int32) : Option Int32 :=
  (if (σ 157 16) = 0 then
  some (-5 : Int32)
else
  (f_X9_isBetween σ p1 (0 : Int32) ((σ 157 17) - (1 : Int32))).bind fun v18 =>
  (if v18 = 0 then
    some (-1 : Int32)
  else
    (f_X9_isBetween σ p2 (0 : Int32) (4 : Int32)).bind fun v29 =>
    (if v29 = 0 then
      some (-2 : Int32)
    else
      (if (3 : Int32) ≤ p2 then
        (if p2 = (3 : Int32) then
          (ld σ 727 p1).bind fun v64 =>
          some v64
        else
          (ld σ 728 p1).bind fun v73 =>
          some v73)
      else
        (ldr 625 p1).bind fun q48 =>
        (ld σ q48 p2).bind fun v50 =>
        some v50))))
/-! SlotBundlerModel.placeOf -/
def f_X9_placeOf (σ : sg) (p1 : Int32) (p2 : Int32) : Option Int32 :=
  (if (σ 157 16) = 0 then
  some (-5 : Int32)
else
  (f_X9_isThere σ p1).bind fun v12 =>
  (if v12 = 0 then
    some (-1 : Int32)
  else
    (f_X9_isBetween σ p2 (0 : Int32) (2 : Int32)).bind fun v23 =>
    (if v23 = 0 then
      some (-2 : Int32)
    else
      (ldr 686 p1).bind fun q34 =>
      (ld σ q34 p2).bind fun v36 =>
      some v36)))
/-! SlotBundlerModel.cyclesOf -/
def J_X9_cyclesOf_49 (σ : sg) (p1 : Int32) (x3 : Int32) (t0 : Int32) : Option ((Int32 × Int32) ⊕ Int32) :=
  some (.inl (t0, x3 + (1 : Int32)))
def B_X9_cyclesOf_9 (σ : sg) (p1 : Int32) (x2 : Int32) (x3 : Int32) : Option ((Int32 × Int32) ⊕ Int32) :=
  (ld σ 612 (p1 + (1 : Int32))).bind fun v17 =>
(if v17 ≤ x3 then
  some (.inr x2)
else
  (ldr 686 x3).bind fun q26 =>
  (ld σ q26 (2 : Int32)).bind fun v28 =>
  (f_X9_latency σ x3).bind fun v31 =>
  (if (v28 + v31) ≤ x2 then
    J_X9_cyclesOf_49 σ p1 x3 x2
  else
    J_X9_cyclesOf_49 σ p1 x3 (v28 + v31)))
def L_X9_cyclesOf_9 (σ : sg) (p1 : Int32) (n : Nat) (a : (Int32 × Int32)) : Option Int32 := g_loop (fun a => B_X9_cyclesOf_9 σ p1 a.1 a.2) n a
def f_X9_cyclesOf (σ : sg) (p1 : Int32) : Option Int32 :=
  (ld σ 612 p1).bind fun v7 =>
L_X9_cyclesOf_9 σ p1 gN ((0 : Int32), v7)
/-! SlotBundlerModel.cycles -/
def f_X9_cycles (σ : sg) (p1 : Int32) : Option (Int32 × sg) :=
  (if (σ 157 16) = 0 then
  some ((-5 : Int32), σ)
else
  (f_X9_findBlocks σ ).bind fun s11 =>
  (f_X9_isBetween s11 p1 (0 : Int32) ((s11 157 7) - (1 : Int32))).bind fun v22 =>
  (if v22 = 0 then
    some ((-1 : Int32), s11)
  else
    (f_X9_cyclesOf s11 p1).bind fun v30 =>
    some (v30, s11)))
/-! SlotBundlerModel.emptySlots -/
def f_X9_emptySlots (σ : sg)  : Option Int32 :=
  (if (σ 157 16) = 0 then
  some (-5 : Int32)
else
  some (((3 : Int32) * (σ 157 17)) - (σ 157 0)))
/-! SlotBundlerModel.search -/
def B_X9_search_31 (rec : sg → Int32 → Int32 → Int32 → Int32 → Int32 → Option sg) (p1 : Int32) (p2 : Int32) (p3 : Int32) (p4 : Int32) (p5 : Int32) (x6 : Int32) (σ : sg) : Option ((Int32 × sg) ⊕ sg) :=
  (if (σ 157 8) ≤ x6 then
  some (.inr σ)
else
  (if p5 ≤ p4 then
    some (.inr σ)
  else
    (if (σ 157 22) ≤ (p4 + (1 : Int32)) then
      some (.inr σ)
    else
      (f_X9_fill σ x6 p1 p2 p3).bind fun s64 =>
      (rec s64 (s64 157 13) (s64 157 14) p3 (p4 + (1 : Int32)) p5).bind fun s83 =>
      some (.inl (x6 + (1 : Int32), s83)))))
def L_X9_search_31 (rec : sg → Int32 → Int32 → Int32 → Int32 → Int32 → Option sg) (p1 : Int32) (p2 : Int32) (p3 : Int32) (p4 : Int32) (p5 : Int32) (n : Nat) (a : (Int32 × sg)) : Option sg := g_loop (fun a => B_X9_search_31 rec p1 p2 p3 p4 p5 a.1 a.2) n a
def J_X9_search_24 (rec : sg → Int32 → Int32 → Int32 → Int32 → Int32 → Option sg) (t0 : Int32) (σ : sg) : Option sg :=
  (some (up σ 157 22 t0)).bind fun s24 =>
some s24
def E_X9_search (rec : sg → Int32 → Int32 → Int32 → Int32 → Int32 → Option sg) (σ : sg) (p1 : Int32) (p2 : Int32) (p3 : Int32) (p4 : Int32) (p5 : Int32) : Option sg :=
  (if p1 = p3 then
  (if (σ 157 22) ≤ p4 then
    J_X9_search_24 rec (σ 157 22) σ
  else
    J_X9_search_24 rec p4 σ)
else
  L_X9_search_31 rec p1 p2 p3 p4 p5 gN ((0 : Int32), σ))
def f_X9_search : Nat → sg → Int32 → Int32 → Int32 → Int32 → Int32 → Option sg
  | 0 => fun _ _ _ _ _ _ => none
  | n + 1 => E_X9_search (f_X9_search n)
/-! SlotBundlerModel.least -/
def f_X9_least (σ : sg) (p1 : Int32) (p2 : Int32) : Option (Int32 × sg) :=
  (f_X9_isComplete σ ).bind fun v1 =>
(if v1 = 0 then
  some ((-6 : Int32), σ)
else
  (f_X9_findBlocks σ ).bind fun s11 =>
  (f_X9_isBetween s11 p1 (0 : Int32) ((s11 157 7) - (1 : Int32))).bind fun v22 =>
  (if v22 = 0 then
    some ((-1 : Int32), s11)
  else
    (f_X9_isBetween s11 p2 (0 : Int32) (4 : Int32)).bind fun v33 =>
    (if v33 = 0 then
      some ((-2 : Int32), s11)
    else
      (some (up s11 157 22 (p2 + (1 : Int32)))).bind fun s46 =>
      (ld s46 612 p1).bind fun v55 =>
      (ld s46 612 (p1 + (1 : Int32))).bind fun v64 =>
      (f_X9_search 8 s46 v55 (0 : Int32) v64 (0 : Int32) p2).bind fun s67 =>
      (if (s67 157 22) ≤ p2 then
        some (s67 157 22, s67)
      else
        some ((-4 : Int32), s67)))))
/-! SlotBundlerModel.isEmpty -/
def f_X9_isEmpty (σ : sg) (p1 : Int32) : Option Int32 :=
  (ldr 625 p1).bind fun q5 =>
(ld σ q5 (0 : Int32)).bind fun v7 =>
(if 0 ≤ v7 then
  some (0 : Int32)
else
  (ldr 625 p1).bind fun q16 =>
  (ld σ q16 (1 : Int32)).bind fun v18 =>
  (if 0 ≤ v18 then
    some (0 : Int32)
  else
    (ldr 625 p1).bind fun q27 =>
    (ld σ q27 (2 : Int32)).bind fun v29 =>
    (if 0 ≤ v29 then
      some (0 : Int32)
    else
      some (1 : Int32))))
/-! SlotBundlerModel.addCode -/
def J_X9_addCode_91 (p1 : Int32) (x2 : Int32) (x3 : Int32) (σ : sg) : Option ((Int32 × sg) ⊕ sg) :=
  some (.inl (x3 + (1 : Int32), σ))
def B_X9_addCode_36 (p1 : Int32) (x2 : Int32) (x3 : Int32) (σ : sg) : Option ((Int32 × sg) ⊕ sg) :=
  (if (3 : Int32) ≤ x3 then
  some (.inr σ)
else
  (ldr 625 p1).bind fun q46 =>
  (ld σ q46 x3).bind fun v48 =>
  (if v48 < 0 then
    J_X9_addCode_91 p1 x2 x3 σ
  else
    (ld σ 729 x2).bind fun v58 =>
    (st σ 729 x2 (v58 + ((1 : Int32) <<< (x3 &&& 31)))).bind fun s63 =>
    (ldr 625 p1).bind fun q77 =>
    (ld s63 q77 x3).bind fun v79 =>
    (st s63 729 (s63 157 25) v79).bind fun s80 =>
    (some (up s80 157 25 ((s80 157 25) + (1 : Int32)))).bind fun s88 =>
    J_X9_addCode_91 p1 x2 x3 s88))
def L_X9_addCode_36 (p1 : Int32) (x2 : Int32) (n : Nat) (a : (Int32 × sg)) : Option sg := g_loop (fun a => B_X9_addCode_36 p1 x2 a.1 a.2) n a
def f_X9_addCode (σ : sg) (p1 : Int32) : Option sg :=
  (ld σ 727 p1).bind fun v17 =>
(st σ 729 (σ 157 25) (((8 : Int32) * v17) + (1000 : Int32))).bind fun s23 =>
(some (up s23 157 25 ((s23 157 25) + (1 : Int32)))).bind fun s31 =>
L_X9_addCode_36 p1 (σ 157 25) gN ((0 : Int32), s31)
/-! SlotBundlerModel.findCode -/
def J_X9_findCode_118 (x1 : Int32) (x2 : Int32) (x3 : Int32) (σ : sg) : Option ((Int32 × Int32 × Int32 × sg) ⊕ sg) :=
  some (.inl (x1, x2, x3 + (1 : Int32), σ))
def J_X9_findCode_105 (x1 : Int32) (x3 : Int32) (t0 : Int32) (t1 : Int32) (t2 : Nat) (σ : sg) : Option ((Int32 × Int32 × Int32 × sg) ⊕ sg) :=
  (st σ t2 t1 t0).bind fun s105 =>
J_X9_findCode_118 x1 (1 : Int32) x3 s105
def J_X9_findCode_70 (x1 : Int32) (x2 : Int32) (x3 : Int32) (t0 : Int32) (t1 : Int32) (σ : sg) : Option ((Int32 × Int32 × Int32 × sg) ⊕ sg) :=
  (some (up σ 157 25 (t1 + t0))).bind fun s71 =>
(if x2 = 0 then
  J_X9_findCode_105 x1 x3 (-1 : Int32) ((s71 157 25) - (1 : Int32)) 729 s71
else
  (ld s71 729 ((s71 157 25) - (1 : Int32))).bind fun v98 =>
  J_X9_findCode_105 x1 x3 (v98 - (1 : Int32)) ((s71 157 25) - (1 : Int32)) 729 s71)
def J_X9_findCode_48 (x1 : Int32) (x2 : Int32) (x3 : Int32) (σ : sg) : Option ((Int32 × Int32 × Int32 × sg) ⊕ sg) :=
  (f_X9_isEmpty σ x3).bind fun v50 =>
(if v50 = 0 then
  (f_X9_addCode σ x3).bind fun s115 =>
  J_X9_findCode_118 x1 (0 : Int32) x3 s115
else
  (if x2 = 0 then
    J_X9_findCode_70 x1 x2 x3 (1 : Int32) (σ 157 25) σ
  else
    J_X9_findCode_70 x1 x2 x3 (0 : Int32) (σ 157 25) σ))
def B_X9_findCode_11 (x1 : Int32) (x2 : Int32) (x3 : Int32) (σ : sg) : Option ((Int32 × Int32 × Int32 × sg) ⊕ sg) :=
  (if (σ 157 17) ≤ x3 then
  some (.inr σ)
else
  (ld σ 728 x3).bind fun v24 =>
  (if v24 = x1 then
    J_X9_findCode_48 x1 x2 x3 σ
  else
    (ld σ 728 x3).bind fun v34 =>
    (st σ 730 v34 (σ 157 25)).bind fun s45 =>
    J_X9_findCode_48 v34 (0 : Int32) x3 s45))
def L_X9_findCode_11  (n : Nat) (a : (Int32 × Int32 × Int32 × sg)) : Option sg := g_loop (fun a => B_X9_findCode_11 a.1 a.2.1 a.2.2.1 a.2.2.2) n a
def f_X9_findCode (σ : sg)  : Option sg :=
  (some (up σ 157 25 (0 : Int32))).bind fun s2 =>
L_X9_findCode_11  gN ((-1 : Int32), (0 : Int32), (0 : Int32), s2)
/-! SlotBundlerModel.codeLength -/
def f_X9_codeLength (σ : sg)  : Option (Int32 × sg) :=
  (if (σ 157 16) = 0 then
  some ((-5 : Int32), σ)
else
  (f_X9_findCode σ ).bind fun s11 =>
  some (s11 157 25, s11))
/-! SlotBundlerModel.code -/
def f_X9_code (σ : sg) (p1 : Int32) : Option (Int32 × sg) :=
  (if (σ 157 16) = 0 then
  some ((-5 : Int32), σ)
else
  (f_X9_findCode σ ).bind fun s11 =>
  (f_X9_isBetween s11 p1 (0 : Int32) ((s11 157 25) - (1 : Int32))).bind fun v22 =>
  (if v22 = 0 then
    some ((-1 : Int32), s11)
  else
    (ld s11 729 p1).bind fun v33 =>
    some (v33 + (2000 : Int32), s11)))
/-! SlotBundlerModel.codeIndex -/
def f_X9_codeIndex (σ : sg) (p1 : Int32) : Option (Int32 × sg) :=
  (if (σ 157 16) = 0 then
  some ((-5 : Int32), σ)
else
  (f_X9_findBlocks σ ).bind fun s11 =>
  (f_X9_findCode s11 ).bind fun s15 =>
  (f_X9_isBetween s15 p1 (0 : Int32) ((s15 157 7) - (1 : Int32))).bind fun v26 =>
  (if v26 = 0 then
    some ((-1 : Int32), s15)
  else
    (ld s15 730 p1).bind fun v37 =>
    some (v37, s15)))
/-! SlotBundlerModel.setRegister -/
def f_X9_setRegister (σ : sg) (p1 : Int32) (p2 : Int32) : Option (Int32 × sg) :=
  (f_X9_isRegister σ p1).bind fun v1 =>
(if v1 = 0 then
  some ((-1 : Int32), σ)
else
  (st σ 731 p1 p2).bind fun s15 =>
  some ((1 : Int32), s15))
/-! SlotBundlerModel.register -/
def f_X9_register (σ : sg) (p1 : Int32) : Option Int64 :=
  (f_X9_isRegister σ p1).bind fun v1 =>
(if v1 = 0 then
  some (-9223372036854775808 : Int64)
else
  (ld σ 731 p1).bind fun v12 =>
  some v12.toInt64)
/-! SlotBundlerModel.setMemory -/
def f_X9_setMemory (σ : sg) (p1 : Int32) (p2 : Int32) : Option (Int32 × sg) :=
  (f_X9_isBetween σ p1 (0 : Int32) (15 : Int32)).bind fun v4 =>
(if v4 = 0 then
  some ((-1 : Int32), σ)
else
  (st σ 731 ((8 : Int32) + p1) p2).bind fun s21 =>
  some ((1 : Int32), s21))
/-! SlotBundlerModel.memory -/
def f_X9_memory (σ : sg) (p1 : Int32) : Option Int64 :=
  (f_X9_isBetween σ p1 (0 : Int32) (15 : Int32)).bind fun v4 =>
(if v4 = 0 then
  some (-9223372036854775808 : Int64)
else
  (ld σ 731 ((8 : Int32) + p1)).bind fun v18 =>
  some v18.toInt64)
/-! SlotBundlerModel.placeWritten -/
def f_X9_placeWritten (σ : sg) (p1 : Int32) : Option Int32 :=
  (f_X9_isExit σ p1).bind fun v2 =>
(if v2 = 0 then
  (f_X9_operation σ p1).bind fun v12 =>
  (if v12 = (9 : Int32) then
    (ldr 158 p1).bind fun q31 =>
    (ld σ q31 (2 : Int32)).bind fun v33 =>
    (ld σ 731 v33).bind fun v34 =>
    some ((8 : Int32) + (v34 &&& (15 : Int32)))
  else
    (ldr 158 p1).bind fun q47 =>
    (ld σ q47 (1 : Int32)).bind fun v49 =>
    some v49)
else
  some (-1 : Int32))
/-! SlotBundlerModel.valueWritten -/
def J_X9_valueWritten_61 (σ : sg) (p1 : Int32) (x2 : Int32) (x3 : Int32) (t0 : Int32) : Option Int32 :=
  (f_X9_operation σ p1).bind fun v65 =>
(if v65 = (0 : Int32) then
  some x2
else
  (if v65 = (1 : Int32) then
    some (x3 + t0)
  else
    (if v65 = (2 : Int32) then
      some (x3 - t0)
    else
      (if v65 = (3 : Int32) then
        some (x3 &&& t0)
      else
        (if v65 = (4 : Int32) then
          some (x3 ^^^ t0)
        else
          (if v65 = (5 : Int32) then
            some (x3 >>> ((t0 &&& (31 : Int32)) &&& 31))
          else
            (if v65 = (6 : Int32) then
              (if t0 ≤ x3 then
                some (0 : Int32)
              else
                some (1 : Int32))
            else
              (if v65 = (7 : Int32) then
                some (x3 * t0)
              else
                (if v65 = (8 : Int32) then
                  (ld σ 731 ((8 : Int32) + (x3 &&& (15 : Int32)))).bind fun v178 =>
                  some v178
                else
                  some t0)))))))))
def J_X9_valueWritten_35 (σ : sg) (p1 : Int32) (x2 : Int32) (t0 : Int32) : Option Int32 :=
  (f_X9_isExit σ p1).bind fun v38 =>
(if v38 = 0 then
  (ldr 158 p1).bind fun q57 =>
  (ld σ q57 (3 : Int32)).bind fun v59 =>
  (ld σ 731 v59).bind fun v60 =>
  J_X9_valueWritten_61 σ p1 x2 t0 v60
else
  J_X9_valueWritten_61 σ p1 x2 t0 (0 : Int32))
def J_X9_valueWritten_34 (σ : sg) (p1 : Int32) (x2 : Int32) : Option Int32 :=
  J_X9_valueWritten_35 σ p1 x2 (0 : Int32)
def f_X9_valueWritten (σ : sg) (p1 : Int32) : Option Int32 :=
  (ldr 158 p1).bind fun q5 =>
(ld σ q5 (2 : Int32)).bind fun v7 =>
(f_X9_operation σ p1).bind fun v11 =>
(if v11 ≤ 0 then
  J_X9_valueWritten_34 σ p1 v7
else
  (f_X9_isExit σ p1).bind fun v19 =>
  (if v19 = 0 then
    (ld σ 731 v7).bind fun v30 =>
    J_X9_valueWritten_35 σ p1 v7 v30
  else
    J_X9_valueWritten_34 σ p1 v7))
/-! SlotBundlerModel.behind -/
def J_X9_behind_44 (σ : sg) (p1 : Int32) (t0 : Int32) : Option Int32 :=
  (if t0 = 0 then
  some (p1 + (1 : Int32))
else
  (ldr 158 p1).bind fun q54 =>
  (ld σ q54 (2 : Int32)).bind fun v56 =>
  some v56)
def J_X9_behind_39 (σ : sg) (p1 : Int32) : Option Int32 :=
  J_X9_behind_44 σ p1 (1 : Int32)
def J_X9_behind_43 (σ : sg) (p1 : Int32) : Option Int32 :=
  J_X9_behind_44 σ p1 (0 : Int32)
def f_X9_behind (σ : sg) (p1 : Int32) (p2 : Int32) : Option Int32 :=
  (f_X9_operation σ p1).bind fun v2 =>
(if v2 = (12 : Int32) then
  some (σ 157 0)
else
  (f_X9_operation σ p1).bind fun v17 =>
  (if v17 = (10 : Int32) then
    J_X9_behind_39 σ p1
  else
    (f_X9_operation σ p1).bind fun v27 =>
    (if v27 = (11 : Int32) then
      (if p2 = 0 then
        J_X9_behind_43 σ p1
      else
        J_X9_behind_39 σ p1)
    else
      J_X9_behind_43 σ p1)))
/-! SlotBundlerModel.execute -/
def J_X9_execute_98 (x2 : Int32) (σ : sg) : Option (Int32 × sg) :=
  (if x2 < (σ 157 0) then
  some ((0 : Int32), σ)
else
  some ((1 : Int32), σ))
def J_X9_execute_82 (p1 : Int32) (x5 : Int32) (σ : sg) : Option ((Int32 × sg) ⊕ (Int32 × sg)) :=
  (some (up σ 157 29 ((σ 157 29) + (1 : Int32)))).bind fun s92 =>
some (.inl (x5, s92))
def J_X9_execute_68 (p1 : Int32) (x3 : Int32) (x4 : Int32) (t0 : Int32) (σ : sg) : Option ((Int32 × sg) ⊕ (Int32 × sg)) :=
  (if x3 < 0 then
  J_X9_execute_82 p1 t0 σ
else
  (st σ 731 x3 x4).bind fun s81 =>
  J_X9_execute_82 p1 t0 s81)
def B_X9_execute_7 (p1 : Int32) (x2 : Int32) (σ : sg) : Option ((Int32 × sg) ⊕ (Int32 × sg)) :=
  (if (σ 157 0) ≤ x2 then
  (J_X9_execute_98 x2 σ).bind fun t => some (.inr t)
else
  (if p1 ≤ (σ 157 29) then
    (J_X9_execute_98 x2 σ).bind fun t => some (.inr t)
  else
    (f_X9_placeWritten σ x2).bind fun v25 =>
    (f_X9_valueWritten σ x2).bind fun v31 =>
    (f_X9_isExit σ x2).bind fun v38 =>
    (if v38 = 0 then
      J_X9_execute_68 p1 v25 v31 (x2 + (1 : Int32)) σ
    else
      (ldr 158 x2).bind fun q55 =>
      (ld σ q55 (3 : Int32)).bind fun v57 =>
      (ld σ 731 v57).bind fun v58 =>
      (f_X9_behind σ x2 v58).bind fun v59 =>
      J_X9_execute_68 p1 v25 v31 v59 σ)))
def L_X9_execute_7 (p1 : Int32) (n : Nat) (a : (Int32 × sg)) : Option (Int32 × sg) := g_loop (fun a => B_X9_execute_7 p1 a.1 a.2) n a
def f_X9_execute (σ : sg) (p1 : Int32) : Option (Int32 × sg) :=
  (some (up σ 157 29 (0 : Int32))).bind fun s2 =>
L_X9_execute_7 p1 gN ((0 : Int32), s2)
/-! SlotBundlerModel.run -/
def f_X9_run (σ : sg) (p1 : Int32) : Option (Int32 × sg) :=
  (f_X9_isBetween σ p1 (0 : Int32) (300 : Int32)).bind fun v5 =>
(if v5 = 0 then
  some ((-2 : Int32), σ)
else
  (f_X9_isComplete σ ).bind fun v15 =>
  (if v15 = 0 then
    some ((-6 : Int32), σ)
  else
    (f_X9_execute σ p1).bind fun q26 =>
    (if q26.1 = 0 then
      some ((-7 : Int32), q26.2)
    else
      some (q26.2 157 29, q26.2))))
/-! SlotBundlerModel.executeBlock -/
def J_X9_executeBlock_207 (x2 : Int32) (x3 : Int32) (x4 : Int32) (x5 : Int32) (x6 : Int32) (x7 : Int32) (σ : sg) : Option ((Int32 × Int32 × sg) ⊕ ((Int32 × Int32 × sg) ⊕ (Int32 × sg))) :=
  some (.inl (x4, x7 + (1 : Int32), σ))
def J_X9_executeBlock_205 (x2 : Int32) (x3 : Int32) (x5 : Int32) (x6 : Int32) (x7 : Int32) (t0 : Int32) (σ : sg) : Option ((Int32 × Int32 × sg) ⊕ ((Int32 × Int32 × sg) ⊕ (Int32 × sg))) :=
  J_X9_executeBlock_207 x2 x3 t0 x5 x6 x7 σ
def B_X9_executeBlock_109 (x2 : Int32) (x3 : Int32) (x5 : Int32) (x6 : Int32) (x4 : Int32) (x7 : Int32) (σ : sg) : Option ((Int32 × Int32 × sg) ⊕ ((Int32 × Int32 × sg) ⊕ (Int32 × sg))) :=
  (if x3 ≤ x7 then
  some (.inr (.inl (x4, x6 + (1 : Int32), σ)))
else
  (ldr 686 x7).bind fun q121 =>
  (ld σ q121 (2 : Int32)).bind fun v123 =>
  (if v123 = x6 then
    (f_X9_placeWritten σ x7).bind fun v138 =>
    (st σ 734 x7 v138).bind fun s141 =>
    (f_X9_valueWritten s141 x7).bind fun v151 =>
    (st s141 735 x7 v151).bind fun s154 =>
    (f_X9_latency s154 x7).bind fun v166 =>
    (st s154 736 x7 (x6 + v166)).bind fun s170 =>
    (f_X9_isExit s170 x7).bind fun v174 =>
    (if v174 = 0 then
      J_X9_executeBlock_205 x2 x3 x5 x6 x7 x4 s170
    else
      (ldr 158 x7).bind fun q193 =>
      (ld s170 q193 (3 : Int32)).bind fun v195 =>
      (ld s170 731 v195).bind fun v196 =>
      (f_X9_behind s170 x7 v196).bind fun v197 =>
      J_X9_executeBlock_205 x2 x3 x5 x6 x7 v197 s170)
  else
    J_X9_executeBlock_207 x2 x3 x4 x5 x6 x7 σ))
def L_X9_executeBlock_109 (x2 : Int32) (x3 : Int32) (x5 : Int32) (x6 : Int32) (n : Nat) (a : (Int32 × Int32 × sg)) : Option ((Int32 × Int32 × sg) ⊕ (Int32 × sg)) := g_loop (fun a => B_X9_executeBlock_109 x2 x3 x5 x6 a.1 a.2.1 a.2.2) n a
def J_X9_executeBlock_100 (x2 : Int32) (x3 : Int32) (x4 : Int32) (x5 : Int32) (x6 : Int32) (x7 : Int32) (σ : sg) : Option ((Int32 × sg) ⊕ ((Int32 × Int32 × sg) ⊕ (Int32 × sg))) :=
  some (.inl (x7 + (1 : Int32), σ))
def B_X9_executeBlock_39 (x2 : Int32) (x3 : Int32) (x4 : Int32) (x5 : Int32) (x6 : Int32) (x7 : Int32) (σ : sg) : Option ((Int32 × sg) ⊕ ((Int32 × Int32 × sg) ⊕ (Int32 × sg))) :=
  (if x3 ≤ x7 then
  (L_X9_executeBlock_109 x2 x3 x5 x6 gN (x4, x2, σ)).bind fun t => some (.inr t)
else
  (ldr 686 x7).bind fun q51 =>
  (ld σ q51 (2 : Int32)).bind fun v53 =>
  (if x6 ≤ v53 then
    J_X9_executeBlock_100 x2 x3 x4 x5 x6 x7 σ
  else
    (ld σ 736 x7).bind fun v65 =>
    (if v65 = x6 then
      (ld σ 734 x7).bind fun v77 =>
      (if v77 < 0 then
        J_X9_executeBlock_100 x2 x3 x4 x5 x6 x7 σ
      else
        (ld σ 734 x7).bind fun v91 =>
        (ld σ 735 x7).bind fun v98 =>
        (st σ 731 v91 v98).bind fun s99 =>
        J_X9_executeBlock_100 x2 x3 x4 x5 x6 x7 s99)
    else
      J_X9_executeBlock_100 x2 x3 x4 x5 x6 x7 σ)))
def L_X9_executeBlock_39 (x2 : Int32) (x3 : Int32) (x4 : Int32) (x5 : Int32) (x6 : Int32) (n : Nat) (a : (Int32 × sg)) : Option ((Int32 × Int32 × sg) ⊕ (Int32 × sg)) := g_loop (fun a => B_X9_executeBlock_39 x2 x3 x4 x5 x6 a.1 a.2) n a
def B_X9_executeBlock_29 (x2 : Int32) (x3 : Int32) (x5 : Int32) (x4 : Int32) (x6 : Int32) (σ : sg) : Option ((Int32 × Int32 × sg) ⊕ (Int32 × sg)) :=
  (if x5 < x6 then
  some (.inr (x4, σ))
else
  L_X9_executeBlock_39 x2 x3 x4 x5 x6 gN (x2, σ))
def L_X9_executeBlock_29 (x2 : Int32) (x3 : Int32) (x5 : Int32) (n : Nat) (a : (Int32 × Int32 × sg)) : Option (Int32 × sg) := g_loop (fun a => B_X9_executeBlock_29 x2 x3 x5 a.1 a.2.1 a.2.2) n a
def f_X9_executeBlock (σ : sg) (p1 : Int32) : Option (Int32 × sg) :=
  (ld σ 612 p1).bind fun v5 =>
(ld σ 612 (p1 + (1 : Int32))).bind fun v14 =>
(f_X9_cyclesOf σ p1).bind fun v21 =>
L_X9_executeBlock_29 v5 v14 v21 gN (v14, (0 : Int32), σ)
/-! SlotBundlerModel.executeBundles -/
def J_X9_executeBundles_62 (x2 : Int32) (σ : sg) : Option (Int32 × sg) :=
  (if x2 < (σ 157 0) then
  some ((0 : Int32), σ)
else
  some ((1 : Int32), σ))
def B_X9_executeBundles_13 (p1 : Int32) (x2 : Int32) (x3 : Int32) (σ : sg) : Option ((Int32 × Int32 × sg) ⊕ (Int32 × sg)) :=
  (if p1 ≤ x3 then
  (J_X9_executeBundles_62 x2 σ).bind fun t => some (.inr t)
else
  (if (σ 157 0) ≤ x2 then
    (J_X9_executeBundles_62 x2 σ).bind fun t => some (.inr t)
  else
    (ld σ 611 x2).bind fun v31 =>
    (f_X9_executeBlock σ v31).bind fun q37 =>
    (f_X9_cyclesOf q37.2 v31).bind fun v49 =>
    (some (up q37.2 157 33 ((q37.2 157 33) + v49))).bind fun s53 =>
    some (.inl (q37.1, x3 + (1 : Int32), s53))))
def L_X9_executeBundles_13 (p1 : Int32) (n : Nat) (a : (Int32 × Int32 × sg)) : Option (Int32 × sg) := g_loop (fun a => B_X9_executeBundles_13 p1 a.1 a.2.1 a.2.2) n a
def f_X9_executeBundles (σ : sg) (p1 : Int32) : Option (Int32 × sg) :=
  (f_X9_findBlocks σ ).bind fun s1 =>
(some (up s1 157 33 (0 : Int32))).bind fun s6 =>
L_X9_executeBundles_13 p1 gN ((0 : Int32), (0 : Int32), s6)
/-! SlotBundlerModel.runBundles -/
def f_X9_runBundles (σ : sg) (p1 : Int32) : Option (Int32 × sg) :=
  (f_X9_isBetween σ p1 (0 : Int32) (100 : Int32)).bind fun v4 =>
(if v4 = 0 then
  some ((-2 : Int32), σ)
else
  (if (σ 157 16) = 0 then
    some ((-5 : Int32), σ)
  else
    (f_X9_executeBundles σ p1).bind fun q25 =>
    (if q25.1 = 0 then
      some ((-7 : Int32), q25.2)
    else
      some (q25.2 157 33, q25.2))))
/-! SlotBundlerModel.compare -/
def J_X9_compare_159 (x2 : Int32) (x4 : Int32) (t0 : Int32) (t1 : Int32) (σ : sg) : Option ((Int32 × Int32 × sg) ⊕ (Int32 × sg)) :=
  (ld σ 732 x4).bind fun v173 =>
(st σ 731 x4 v173).bind fun s174 =>
some (.inl (t1 &&& t0, x4 + (1 : Int32), s174))
def B_X9_compare_126 (x2 : Int32) (x3 : Int32) (x4 : Int32) (σ : sg) : Option ((Int32 × Int32 × sg) ⊕ (Int32 × sg)) :=
  (if (24 : Int32) ≤ x4 then
  (if x2 = 0 then
    some (.inr ((-7 : Int32), σ))
  else
    (if x3 = 0 then
      some (.inr ((0 : Int32), σ))
    else
      some (.inr ((1 : Int32), σ))))
else
  (ld σ 733 x4).bind fun v143 =>
  (ld σ 731 x4).bind fun v150 =>
  (if v143 = v150 then
    J_X9_compare_159 x2 x4 (1 : Int32) x3 σ
  else
    J_X9_compare_159 x2 x4 (0 : Int32) x3 σ))
def L_X9_compare_126 (x2 : Int32) (n : Nat) (a : (Int32 × Int32 × sg)) : Option (Int32 × sg) := g_loop (fun a => B_X9_compare_126 x2 a.1 a.2.1 a.2.2) n a
def J_X9_compare_122 (x2 : Int32) (t0 : Int32) (σ : sg) : Option (Int32 × sg) :=
  L_X9_compare_126 x2 gN (t0, (0 : Int32), σ)
def J_X9_compare_121 (x2 : Int32) (σ : sg) : Option (Int32 × sg) :=
  J_X9_compare_122 x2 (0 : Int32) σ
def B_X9_compare_61 (x2 : Int32) (x3 : Int32) (σ : sg) : Option ((Int32 × sg) ⊕ (Int32 × sg)) :=
  (if (24 : Int32) ≤ x3 then
  (if x2 = 0 then
    (J_X9_compare_121 x2 σ).bind fun t => some (.inr t)
  else
    (f_X9_executeBundles σ ((σ 157 29) + (1 : Int32))).bind fun q111 =>
    (if q111.1 = 0 then
      (J_X9_compare_121 x2 q111.2).bind fun t => some (.inr t)
    else
      (J_X9_compare_122 x2 (1 : Int32) q111.2).bind fun t => some (.inr t)))
else
  (ld σ 731 x3).bind fun v80 =>
  (st σ 733 x3 v80).bind fun s81 =>
  (ld s81 732 x3).bind fun v92 =>
  (st s81 731 x3 v92).bind fun s93 =>
  some (.inl (x3 + (1 : Int32), s93)))
def L_X9_compare_61 (x2 : Int32) (n : Nat) (a : (Int32 × sg)) : Option (Int32 × sg) := g_loop (fun a => B_X9_compare_61 x2 a.1 a.2) n a
def B_X9_compare_26 (p1 : Int32) (x2 : Int32) (σ : sg) : Option ((Int32 × sg) ⊕ (Int32 × sg)) :=
  (if (24 : Int32) ≤ x2 then
  (f_X9_execute σ p1).bind fun q55 =>
  (L_X9_compare_61 q55.1 gN ((0 : Int32), q55.2)).bind fun t => some (.inr t)
else
  (ld σ 731 x2).bind fun v45 =>
  (st σ 732 x2 v45).bind fun s46 =>
  some (.inl (x2 + (1 : Int32), s46)))
def L_X9_compare_26 (p1 : Int32) (n : Nat) (a : (Int32 × sg)) : Option (Int32 × sg) := g_loop (fun a => B_X9_compare_26 p1 a.1 a.2) n a
def f_X9_compare (σ : sg) (p1 : Int32) : Option (Int32 × sg) :=
  (f_X9_isBetween σ p1 (0 : Int32) (300 : Int32)).bind fun v5 =>
(if v5 = 0 then
  some ((-2 : Int32), σ)
else
  (if (σ 157 16) = 0 then
    some ((-5 : Int32), σ)
  else
    L_X9_compare_26 p1 gN ((0 : Int32), σ)))
