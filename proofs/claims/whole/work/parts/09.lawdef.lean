/-! the law's own rows: the script -/
def lx (xs : Nat → Int32) (L : Nat) (i : Int32) : Option Int32 := (ix i L).map xs
def gScr (X : gX) (b L : Nat) (xs : Nat → Int32) : Prop := va_X b L xs (Xs X) (Xs X).heap ∧ b < (Xs X).heap.size ∧ ¬ XA X b
def lawQ (X : gX) (b L : Nat) (xs : Nat → Int32) (r0 : Int32) : Prop := gScr X b L xs ∧ (∀ (σ : sg) (pc : Nat) (lv : List (Nat × Value)), decode code pc = .ok (.ireturn, 1) → G X 4 σ pc lv [.int 1]) ∧ r0 = 1
theorem lx_some {xs : Nat → Int32} {L : Nat} {i v : Int32} (h : lx xs L i = some v) : vp_in i L ∧ v = xs i.toNatClampNeg := by
  unfold lx at h
  obtain ⟨k, h1, h2⟩ := Option.map_eq_some_iff.mp h
  obtain ⟨h3, h4⟩ := ix_some h1
  subst h4
  exact ⟨h3, h2.symm⟩
theorem g_sld {X : gX} {cc : ByteArray} {nL pc : Nat} {own : String} {ret : Option FieldType} {R : Room} {σ : sg} {lv : List (Nat × Value)} {stk : List Value} (C : gC X cc nL own ret R) {b L : Nat} {xs : Nat → Int32} (hX : gScr X b L xs) {i v : Int32} (hv : lx xs L i = some v) (hdg : decode cc pc = .ok (.iaload, 1)) (kk : G X nL σ (pc + 1) lv (.int v :: stk)) : G X nL σ pc lv (.int i :: .ref b :: stk) := by
  obtain ⟨hi, rfl⟩ := lx_some hv
  exact fun H locs ls hP hS hl => va_sld C.1 C.2.1 hX.1 hX.2.1 hX.2.2 hS hi hdg (kk H locs ls hP hS hl)
theorem g_slen {X : gX} {cc : ByteArray} {nL pc : Nat} {own : String} {ret : Option FieldType} {R : Room} {σ : sg} {lv : List (Nat × Value)} {stk : List Value} (C : gC X cc nL own ret R) {b L : Nat} {xs : Nat → Int32} (hX : gScr X b L xs) (hdg : decode cc pc = .ok (.arraylength, 1)) (kk : G X nL σ (pc + 1) lv (.int (Int32.ofNat L) :: stk)) : G X nL σ pc lv (.ref b :: stk) :=
  fun H locs ls hP hS hl => va_slen C.1 C.2.1 hX.1 hX.2.1 hX.2.2 hS hdg (kk H locs ls hP hS hl)
def J_L_law_984 (L : Nat) (xs : Nat → Int32) (x3 : Int32) (σ : sg) : Option ((Int32 × sg) ⊕ Int32) :=
  some (.inl (x3 + (6 : Int32), σ))
def B_L_law_18 (L : Nat) (xs : Nat → Int32) (x3 : Int32) (σ : sg) : Option ((Int32 × sg) ⊕ Int32) :=
  (if ((Int32.ofNat L) - (6 : Int32)) < x3 then
  some (.inr (1 : Int32))
else
  (lx xs L x3).bind fun v29 =>
  (if (v29 &&& (31 : Int32)) = (0 : Int32) then
    (lx xs L (x3 + (1 : Int32))).bind fun v181 =>
    (lx xs L (x3 + (2 : Int32))).bind fun v186 =>
    (lx xs L (x3 + (3 : Int32))).bind fun v191 =>
    (lx xs L (x3 + (4 : Int32))).bind fun v196 =>
    (f_X8_add σ v181 v186 v191 v196).bind fun q197 =>
    (lx xs L (x3 + (1 : Int32))).bind fun v205 =>
    (lx xs L (x3 + (2 : Int32))).bind fun v210 =>
    (lx xs L (x3 + (3 : Int32))).bind fun v215 =>
    (lx xs L (x3 + (4 : Int32))).bind fun v220 =>
    (f_X9_add q197.2 v205 v210 v215 v220).bind fun q221 =>
    (if q197.1 = q221.1 then
      J_L_law_984 L xs x3 q221.2
    else
      some (.inr (0 : Int32)))
  else
    (if (v29 &&& (31 : Int32)) = (1 : Int32) then
      (lx xs L (x3 + (1 : Int32))).bind fun v234 =>
      (lx xs L (x3 + (2 : Int32))).bind fun v239 =>
      (lx xs L (x3 + (3 : Int32))).bind fun v244 =>
      (lx xs L (x3 + (4 : Int32))).bind fun v249 =>
      (lx xs L (x3 + (5 : Int32))).bind fun v254 =>
      (f_X8_set σ v234 v239 v244 v249 v254).bind fun q255 =>
      (lx xs L (x3 + (1 : Int32))).bind fun v263 =>
      (lx xs L (x3 + (2 : Int32))).bind fun v268 =>
      (lx xs L (x3 + (3 : Int32))).bind fun v273 =>
      (lx xs L (x3 + (4 : Int32))).bind fun v278 =>
      (lx xs L (x3 + (5 : Int32))).bind fun v283 =>
      (f_X9_set q255.2 v263 v268 v273 v278 v283).bind fun q284 =>
      (if q255.1 = q284.1 then
        J_L_law_984 L xs x3 q284.2
      else
        some (.inr (0 : Int32)))
    else
      (if (v29 &&& (31 : Int32)) = (2 : Int32) then
        (f_X8_removeLast σ ).bind fun q293 =>
        (f_X9_removeLast q293.2 ).bind fun q297 =>
        (if q293.1 = q297.1 then
          J_L_law_984 L xs x3 q297.2
        else
          some (.inr (0 : Int32)))
      else
        (if (v29 &&& (31 : Int32)) = (3 : Int32) then
          (f_X8_size σ ).bind fun v306 =>
          (f_X9_size σ ).bind fun v310 =>
          (if v306 = v310 then
            J_L_law_984 L xs x3 σ
          else
            some (.inr (0 : Int32)))
        else
          (if (v29 &&& (31 : Int32)) = (4 : Int32) then
            (lx xs L (x3 + (1 : Int32))).bind fun v323 =>
            (lx xs L (x3 + (2 : Int32))).bind fun v328 =>
            (f_X8_part σ v323 v328).bind fun v329 =>
            (lx xs L (x3 + (1 : Int32))).bind fun v337 =>
            (lx xs L (x3 + (2 : Int32))).bind fun v342 =>
            (f_X9_part σ v337 v342).bind fun v343 =>
            (if v329 = v343 then
              J_L_law_984 L xs x3 σ
            else
              some (.inr (0 : Int32)))
          else
            (if (v29 &&& (31 : Int32)) = (5 : Int32) then
              (f_X8_undo σ ).bind fun q352 =>
              (f_X9_undo q352.2 ).bind fun q356 =>
              (if q352.1 = q356.1 then
                J_L_law_984 L xs x3 q356.2
              else
                some (.inr (0 : Int32)))
            else
              (if (v29 &&& (31 : Int32)) = (6 : Int32) then
                (f_X8_blockCount σ ).bind fun v365 =>
                (f_X9_blockCount σ ).bind fun q369 =>
                (if v365 = q369.1 then
                  J_L_law_984 L xs x3 q369.2
                else
                  some (.inr (0 : Int32)))
              else
                (if (v29 &&& (31 : Int32)) = (7 : Int32) then
                  (lx xs L (x3 + (1 : Int32))).bind fun v382 =>
                  (f_X8_blockOf σ v382).bind fun v383 =>
                  (lx xs L (x3 + (1 : Int32))).bind fun v391 =>
                  (f_X9_blockOf σ v391).bind fun q392 =>
                  (if v383 = q392.1 then
                    J_L_law_984 L xs x3 q392.2
                  else
                    some (.inr (0 : Int32)))
                else
                  (if (v29 &&& (31 : Int32)) = (8 : Int32) then
                    (lx xs L (x3 + (1 : Int32))).bind fun v405 =>
                    (f_X8_blockBegin σ v405).bind fun v406 =>
                    (lx xs L (x3 + (1 : Int32))).bind fun v414 =>
                    (f_X9_blockBegin σ v414).bind fun q415 =>
                    (if v406 = q415.1 then
                      J_L_law_984 L xs x3 q415.2
                    else
                      some (.inr (0 : Int32)))
                  else
                    (if (v29 &&& (31 : Int32)) = (9 : Int32) then
                      (lx xs L (x3 + (1 : Int32))).bind fun v428 =>
                      (lx xs L (x3 + (2 : Int32))).bind fun v433 =>
                      (f_X8_distance σ v428 v433).bind fun v434 =>
                      (lx xs L (x3 + (1 : Int32))).bind fun v442 =>
                      (lx xs L (x3 + (2 : Int32))).bind fun v447 =>
                      (f_X9_distance σ v442 v447).bind fun q448 =>
                      (if v434 = q448.1 then
                        J_L_law_984 L xs x3 q448.2
                      else
                        some (.inr (0 : Int32)))
                    else
                      (if (v29 &&& (31 : Int32)) = (10 : Int32) then
                        (lx xs L (x3 + (1 : Int32))).bind fun v461 =>
                        (lx xs L (x3 + (2 : Int32))).bind fun v466 =>
                        (lx xs L (x3 + (3 : Int32))).bind fun v471 =>
                        (lx xs L (x3 + (4 : Int32))).bind fun v476 =>
                        (f_X8_addTemplate σ v461 v466 v471 v476).bind fun q477 =>
                        (lx xs L (x3 + (1 : Int32))).bind fun v485 =>
                        (lx xs L (x3 + (2 : Int32))).bind fun v490 =>
                        (lx xs L (x3 + (3 : Int32))).bind fun v495 =>
                        (lx xs L (x3 + (4 : Int32))).bind fun v500 =>
                        (f_X9_addTemplate q477.2 v485 v490 v495 v500).bind fun q501 =>
                        (if q477.1 = q501.1 then
                          J_L_law_984 L xs x3 q501.2
                        else
                          some (.inr (0 : Int32)))
                      else
                        (if (v29 &&& (31 : Int32)) = (11 : Int32) then
                          (f_X8_clearTemplates σ ).bind fun q510 =>
                          (f_X9_clearTemplates q510.2 ).bind fun q514 =>
                          (if q510.1 = q514.1 then
                            J_L_law_984 L xs x3 q514.2
                          else
                            some (.inr (0 : Int32)))
                        else
                          (if (v29 &&& (31 : Int32)) = (12 : Int32) then
                            (f_X8_templateCount σ ).bind fun v523 =>
                            (f_X9_templateCount σ ).bind fun v527 =>
                            (if v523 = v527 then
                              J_L_law_984 L xs x3 σ
                            else
                              some (.inr (0 : Int32)))
                          else
                            (if (v29 &&& (31 : Int32)) = (13 : Int32) then
                              (lx xs L (x3 + (1 : Int32))).bind fun v540 =>
                              (lx xs L (x3 + (2 : Int32))).bind fun v545 =>
                              (f_X8_template σ v540 v545).bind fun v546 =>
                              (lx xs L (x3 + (1 : Int32))).bind fun v554 =>
                              (lx xs L (x3 + (2 : Int32))).bind fun v559 =>
                              (f_X9_template σ v554 v559).bind fun v560 =>
                              (if v546 = v560 then
                                J_L_law_984 L xs x3 σ
                              else
                                some (.inr (0 : Int32)))
                            else
                              (if (v29 &&& (31 : Int32)) = (14 : Int32) then
                                (f_X8_pack σ ).bind fun q569 =>
                                (f_X9_pack q569.2 ).bind fun q573 =>
                                (if q569.1 = q573.1 then
                                  J_L_law_984 L xs x3 q573.2
                                else
                                  some (.inr (0 : Int32)))
                              else
                                (if (v29 &&& (31 : Int32)) = (15 : Int32) then
                                  (f_X8_unpack σ ).bind fun q582 =>
                                  (f_X9_unpack q582.2 ).bind fun q586 =>
                                  (if q582.1 = q586.1 then
                                    J_L_law_984 L xs x3 q586.2
                                  else
                                    some (.inr (0 : Int32)))
                                else
                                  (if (v29 &&& (31 : Int32)) = (16 : Int32) then
                                    (f_X8_bundleCount σ ).bind fun v595 =>
                                    (f_X9_bundleCount σ ).bind fun v599 =>
                                    (if v595 = v599 then
                                      J_L_law_984 L xs x3 σ
                                    else
                                      some (.inr (0 : Int32)))
                                  else
                                    (if (v29 &&& (31 : Int32)) = (17 : Int32) then
                                      (lx xs L (x3 + (1 : Int32))).bind fun v612 =>
                                      (lx xs L (x3 + (2 : Int32))).bind fun v617 =>
                                      (f_X8_bundle σ v612 v617).bind fun v618 =>
                                      (lx xs L (x3 + (1 : Int32))).bind fun v626 =>
                                      (lx xs L (x3 + (2 : Int32))).bind fun v631 =>
                                      (f_X9_bundle σ v626 v631).bind fun v632 =>
                                      (if v618 = v632 then
                                        J_L_law_984 L xs x3 σ
                                      else
                                        some (.inr (0 : Int32)))
                                    else
                                      (if (v29 &&& (31 : Int32)) = (18 : Int32) then
                                        (lx xs L (x3 + (1 : Int32))).bind fun v645 =>
                                        (lx xs L (x3 + (2 : Int32))).bind fun v650 =>
                                        (f_X8_placeOf σ v645 v650).bind fun v651 =>
                                        (lx xs L (x3 + (1 : Int32))).bind fun v659 =>
                                        (lx xs L (x3 + (2 : Int32))).bind fun v664 =>
                                        (f_X9_placeOf σ v659 v664).bind fun v665 =>
                                        (if v651 = v665 then
                                          J_L_law_984 L xs x3 σ
                                        else
                                          some (.inr (0 : Int32)))
                                      else
                                        (if (v29 &&& (31 : Int32)) = (19 : Int32) then
                                          (lx xs L (x3 + (1 : Int32))).bind fun v678 =>
                                          (f_X8_cycles σ v678).bind fun v679 =>
                                          (lx xs L (x3 + (1 : Int32))).bind fun v687 =>
                                          (f_X9_cycles σ v687).bind fun q688 =>
                                          (if v679 = q688.1 then
                                            J_L_law_984 L xs x3 q688.2
                                          else
                                            some (.inr (0 : Int32)))
                                        else
                                          (if (v29 &&& (31 : Int32)) = (20 : Int32) then
                                            (f_X8_emptySlots σ ).bind fun v697 =>
                                            (f_X9_emptySlots σ ).bind fun v701 =>
                                            (if v697 = v701 then
                                              J_L_law_984 L xs x3 σ
                                            else
                                              some (.inr (0 : Int32)))
                                          else
                                            (if (v29 &&& (31 : Int32)) = (21 : Int32) then
                                              (lx xs L (x3 + (1 : Int32))).bind fun v714 =>
                                              (lx xs L (x3 + (2 : Int32))).bind fun v719 =>
                                              (f_X8_least σ v714 v719).bind fun q720 =>
                                              (lx xs L (x3 + (1 : Int32))).bind fun v728 =>
                                              (lx xs L (x3 + (2 : Int32))).bind fun v733 =>
                                              (f_X9_least q720.2 v728 v733).bind fun q734 =>
                                              (if q720.1 = q734.1 then
                                                J_L_law_984 L xs x3 q734.2
                                              else
                                                some (.inr (0 : Int32)))
                                            else
                                              (if (v29 &&& (31 : Int32)) = (22 : Int32) then
                                                (f_X8_codeLength σ ).bind fun v743 =>
                                                (f_X9_codeLength σ ).bind fun q747 =>
                                                (if v743 = q747.1 then
                                                  J_L_law_984 L xs x3 q747.2
                                                else
                                                  some (.inr (0 : Int32)))
                                              else
                                                (if (v29 &&& (31 : Int32)) = (23 : Int32) then
                                                  (lx xs L (x3 + (1 : Int32))).bind fun v760 =>
                                                  (f_X8_code σ v760).bind fun v761 =>
                                                  (lx xs L (x3 + (1 : Int32))).bind fun v769 =>
                                                  (f_X9_code σ v769).bind fun q770 =>
                                                  (if v761 = q770.1 then
                                                    J_L_law_984 L xs x3 q770.2
                                                  else
                                                    some (.inr (0 : Int32)))
                                                else
                                                  (if (v29 &&& (31 : Int32)) = (24 : Int32) then
                                                    (lx xs L (x3 + (1 : Int32))).bind fun v783 =>
                                                    (f_X8_codeIndex σ v783).bind fun v784 =>
                                                    (lx xs L (x3 + (1 : Int32))).bind fun v792 =>
                                                    (f_X9_codeIndex σ v792).bind fun q793 =>
                                                    (if v784 = q793.1 then
                                                      J_L_law_984 L xs x3 q793.2
                                                    else
                                                      some (.inr (0 : Int32)))
                                                  else
                                                    (if (v29 &&& (31 : Int32)) = (25 : Int32) then
                                                      (lx xs L (x3 + (1 : Int32))).bind fun v806 =>
                                                      (lx xs L (x3 + (2 : Int32))).bind fun v811 =>
                                                      (f_X8_setRegister σ v806 v811).bind fun q812 =>
                                                      (lx xs L (x3 + (1 : Int32))).bind fun v820 =>
                                                      (lx xs L (x3 + (2 : Int32))).bind fun v825 =>
                                                      (f_X9_setRegister q812.2 v820 v825).bind fun q826 =>
                                                      (if q812.1 = q826.1 then
                                                        J_L_law_984 L xs x3 q826.2
                                                      else
                                                        some (.inr (0 : Int32)))
                                                    else
                                                      (if (v29 &&& (31 : Int32)) = (26 : Int32) then
                                                        (lx xs L (x3 + (1 : Int32))).bind fun v839 =>
                                                        (f_X8_register σ v839).bind fun v840 =>
                                                        (lx xs L (x3 + (1 : Int32))).bind fun v848 =>
                                                        (f_X9_register σ v848).bind fun v849 =>
                                                        (if (lg_cmp v840 v849) = 0 then
                                                          J_L_law_984 L xs x3 σ
                                                        else
                                                          some (.inr (0 : Int32)))
                                                      else
                                                        (if (v29 &&& (31 : Int32)) = (27 : Int32) then
                                                          (lx xs L (x3 + (1 : Int32))).bind fun v863 =>
                                                          (lx xs L (x3 + (2 : Int32))).bind fun v868 =>
                                                          (f_X8_setMemory σ v863 v868).bind fun q869 =>
                                                          (lx xs L (x3 + (1 : Int32))).bind fun v877 =>
                                                          (lx xs L (x3 + (2 : Int32))).bind fun v882 =>
                                                          (f_X9_setMemory q869.2 v877 v882).bind fun q883 =>
                                                          (if q869.1 = q883.1 then
                                                            J_L_law_984 L xs x3 q883.2
                                                          else
                                                            some (.inr (0 : Int32)))
                                                        else
                                                          (if (v29 &&& (31 : Int32)) = (28 : Int32) then
                                                            (lx xs L (x3 + (1 : Int32))).bind fun v896 =>
                                                            (f_X8_memory σ v896).bind fun v897 =>
                                                            (lx xs L (x3 + (1 : Int32))).bind fun v905 =>
                                                            (f_X9_memory σ v905).bind fun v906 =>
                                                            (if (lg_cmp v897 v906) = 0 then
                                                              J_L_law_984 L xs x3 σ
                                                            else
                                                              some (.inr (0 : Int32)))
                                                          else
                                                            (if (v29 &&& (31 : Int32)) = (29 : Int32) then
                                                              (lx xs L (x3 + (1 : Int32))).bind fun v920 =>
                                                              (f_X8_run σ v920).bind fun q921 =>
                                                              (lx xs L (x3 + (1 : Int32))).bind fun v929 =>
                                                              (f_X9_run q921.2 v929).bind fun q930 =>
                                                              (if q921.1 = q930.1 then
                                                                J_L_law_984 L xs x3 q930.2
                                                              else
                                                                some (.inr (0 : Int32)))
                                                            else
                                                              (if (v29 &&& (31 : Int32)) = (30 : Int32) then
                                                                (lx xs L (x3 + (1 : Int32))).bind fun v943 =>
                                                                (f_X8_runBundles σ v943).bind fun q944 =>
                                                                (lx xs L (x3 + (1 : Int32))).bind fun v952 =>
                                                                (f_X9_runBundles q944.2 v952).bind fun q953 =>
                                                                (if q944.1 = q953.1 then
                                                                  J_L_law_984 L xs x3 q953.2
                                                                else
                                                                  some (.inr (0 : Int32)))
                                                              else
                                                                (if (v29 &&& (31 : Int32)) = (31 : Int32) then
                                                                  (lx xs L (x3 + (1 : Int32))).bind fun v966 =>
                                                                  (f_X8_compare σ v966).bind fun q967 =>
                                                                  (lx xs L (x3 + (1 : Int32))).bind fun v975 =>
                                                                  (f_X9_compare q967.2 v975).bind fun q976 =>
                                                                  (if q967.1 = q976.1 then
                                                                    J_L_law_984 L xs x3 q976.2
                                                                  else
                                                                    some (.inr (0 : Int32)))
                                                                else
                                                                  J_L_law_984 L xs x3 σ)))))))))))))))))))))))))))))))))
def L_L_law_18 (L : Nat) (xs : Nat → Int32) (n : Nat) (a : (Int32 × sg)) : Option Int32 := g_loop (fun a => B_L_law_18 L xs a.1 a.2) n a
