def rmL : Room := { frames := 12, cells := 20058, slots := 122352, locals := 456 }
def bL_law_425 (K21 K135 K426 : ZK QQ) : ZK QQ := (o_ic (0) K426)
def bL_law_390 (K21 K135 K426 : ZK QQ) : ZK QQ := (o_iload 3 (o_if1 (fun x => x = 0) (bL_law_425 K21 K135 K426) (o_aload 1 (o_aload 2 (o_cL 2 80 20000 tL_areAlike (o_if1 (fun x => x = 0) (bL_law_425 K21 K135 K426) (o_aload 1 (o_cL 1 90 20000 tL_areRulesSo (o_if1 (fun x => x = 0) (bL_law_425 K21 K135 K426) (o_aload 1 (o_ic (0) (o_ic (255) (o_ic (1) (o_cL 4 30 20000 tL_areCountedSo (o_if1 (fun x => x = 0) (bL_law_425 K21 K135 K426) (o_ic (1) K426))))))))))))))))
def bL_law_384 (K21 K135 K426 : ZK QQ) : ZK QQ := (o_iinc 4 (1) K135)
def bL_law_383 (K21 K135 K426 : ZK QQ) : ZK QQ := (o_istore 3 (bL_law_384 K21 K135 K426))
def bL_law_382 (K21 K135 K426 : ZK QQ) : ZK QQ := (o_ic (0) (bL_law_383 K21 K135 K426))
def bL_law_324 (K21 K135 K426 : ZK QQ) : ZK QQ := (o_iload 4 (o_ic (10) (o_irem (o_ic (8) (o_if2 (fun x y => ¬ x = y) (bL_law_384 K21 K135 K426) (o_iload 3 (o_if1 (fun x => x = 0) (bL_law_382 K21 K135 K426) (o_aload 1 (o_aload 2 (o_iload 5 (o_ic (5) (o_bin (fun x y => x >>> (y &&& 31)) (o_aload 1 (o_rd0 false 20000 (fun μ => gThings μ) (o_cL 2 0 20000 tL_low (o_iload 5 (o_ic (7) (o_bin (fun x y => x >>> (y &&& 31)) (o_aload 1 (o_rd0 false 20000 (fun μ => gTags μ) (o_cL 2 0 20000 tL_low (o_iload 5 (o_ic (9) (o_bin (fun x y => x >>> (y &&& 31)) (o_ic (3) (o_cL 2 0 20000 tL_low (o_cL 5 0 20000 tL_isUndoneSo (o_if1 (fun x => x = 0) (bL_law_382 K21 K135 K426) (o_ic (1) (bL_law_383 K21 K135 K426))))))))))))))))))))))))))))))
def bL_law_323 (K21 K135 K426 : ZK QQ) : ZK QQ := (o_istore 3 (bL_law_324 K21 K135 K426))
def bL_law_322 (K21 K135 K426 : ZK QQ) : ZK QQ := (o_ic (0) (bL_law_323 K21 K135 K426))
def bL_law_248 (K21 K135 K426 : ZK QQ) : ZK QQ := (o_istore 3 (o_iload 4 (o_ic (9) (o_irem (o_ic (5) (o_if2 (fun x y => ¬ x = y) (bL_law_324 K21 K135 K426) (o_iload 3 (o_if1 (fun x => x = 0) (bL_law_322 K21 K135 K426) (o_aload 1 (o_cL 1 90 20000 tL_areRulesSo (o_if1 (fun x => x = 0) (bL_law_322 K21 K135 K426) (o_aload 1 (o_ic (1) (o_iload 5 (o_ic (4) (o_bin (fun x y => x >>> (y &&& 31)) (o_ic (8) (o_cL 2 0 20000 tL_low (o_bin (fun x y => x <<< (y &&& 31)) (o_iload 5 (o_ic (6) (o_bin (fun x y => x >>> (y &&& 31)) (o_ic (256) (o_cL 2 0 20000 tL_low (o_iload 5 (o_ic (9) (o_bin (fun x y => x >>> (y &&& 31)) (o_ic (1) (o_bin (fun x y => x &&& y) (o_ic (1) (o_iload 5 (o_ic (10) (o_bin (fun x y => x >>> (y &&& 31)) (o_ic (8) (o_cL 2 0 20000 tL_low (o_bin (fun x y => x <<< (y &&& 31)) (o_bin (fun x y => x * y) (o_cL 4 30 20000 tL_areCountedSo (o_if1 (fun x => x = 0) (bL_law_322 K21 K135 K426) (o_ic (1) (bL_law_323 K21 K135 K426)))))))))))))))))))))))))))))))))))))))))
def bL_law_247 (K21 K135 K426 : ZK QQ) : ZK QQ := (o_ic (0) (bL_law_248 K21 K135 K426))
def bL_law_243 (K21 K135 K426 : ZK QQ) : ZK QQ := (o_ic (1) (bL_law_248 K21 K135 K426))
def bL_law_217 (K21 K135 K426 : ZK QQ) : ZK QQ := (o_iload 4 (o_ic (3) (o_irem (o_ic (1) (o_if2 (fun x y => ¬ x = y) (bL_law_243 K21 K135 K426) (o_aload 1 (o_iload 5 (o_ic (5) (o_bin (fun x y => x >>> (y &&& 31)) (o_aload 1 (o_rd0 false 20000 (fun μ => gThings μ) (o_cL 2 0 20000 tL_low (o_cL 2 0 20000 tL_areShownSo (o_if1 (fun x => x = 0) (bL_law_247 K21 K135 K426) (bL_law_243 K21 K135 K426)))))))))))))))
def bL_law_200 (K21 K135 K426 : ZK QQ) : ZK QQ := (o_iload 4 (o_ic (6) (o_irem (o_ic (3) (o_if2 (fun x y => ¬ x = y) (bL_law_217 K21 K135 K426) (o_aload 1 (o_aload 2 (o_cL 2 80 20000 tL_areAlike (o_if1 (fun x => x = 0) (bL_law_247 K21 K135 K426) (bL_law_217 K21 K135 K426))))))))))
def bL_law_135 (K21 K135 K426 : ZK QQ) : ZK QQ := (o_iload 4 (o_ic (90) (o_if2 (fun x y => y ≤ x) (bL_law_390 K21 K135 K426) (o_iload 3 (o_if1 (fun x => x = 0) (bL_law_390 K21 K135 K426) (o_alS 0 (o_iload 4 (o_ic (61) (o_irem (o_cell 20000 (o_ic (1061) (o_iload 4 (o_ic (61) (o_idiv (o_bin (fun x y => x * y) (o_bin (fun x y => x + y) (o_istore 5 (o_aload 1 (o_iload 5 (o_cL 2 3 20000 tL_act (o_istore 6 (o_iload 6 (o_ic (-77777) (o_if2 (fun x y => x = y) (bL_law_247 K21 K135 K426) (o_iload 6 (o_ic (-99999) (o_if2 (fun x y => x = y) (bL_law_200 K21 K135 K426) (o_aload 2 (o_iload 5 (o_cL 2 3 20000 tL_act (o_iload 6 (o_if2 (fun x y => ¬ x = y) (bL_law_247 K21 K135 K426) (bL_law_200 K21 K135 K426)))))))))))))))))))))))))))))))))
def bL_law_125 (K21 K135 K426 : ZK QQ) : ZK QQ := (o_istore 3 (o_iinc 4 (1) K21))
def bL_law_124 (K21 K135 K426 : ZK QQ) : ZK QQ := (o_ic (0) (bL_law_125 K21 K135 K426))
def bL_law_120 (K21 K135 K426 : ZK QQ) : ZK QQ := (o_ic (1) (bL_law_125 K21 K135 K426))
def bL_law_21 (K21 K135 K426 : ZK QQ) : ZK QQ := (o_iload 4 (o_ic (8) (o_if2 (fun x y => y ≤ x) (o_ic (0) (o_istore 4 K135)) (o_iload 3 (o_if1 (fun x => x = 0) (bL_law_124 K21 K135 K426) (o_aload 1 (o_ic (65) (o_iload 4 (o_bin (fun x y => x + y) (o_i2c (o_cL 2 1 20000 tL_type (o_ic (1) (o_if2 (fun x y => ¬ x = y) (bL_law_124 K21 K135 K426) (o_aload 2 (o_ic (65) (o_iload 4 (o_bin (fun x y => x + y) (o_i2c (o_cL 2 1 20000 tL_type (o_ic (1) (o_if2 (fun x y => ¬ x = y) (bL_law_124 K21 K135 K426) (o_aload 1 (o_ic (8) (o_ic (0) (o_ic (0) (o_ic (0) (o_cL 5 1 20000 tL_does (o_iload 4 (o_if2 (fun x y => ¬ x = y) (bL_law_124 K21 K135 K426) (o_aload 2 (o_ic (8) (o_ic (0) (o_ic (0) (o_ic (0) (o_cL 5 1 20000 tL_does (o_iload 4 (o_if2 (fun x y => ¬ x = y) (bL_law_124 K21 K135 K426) (o_iload 4 (o_ic (2) (o_if2 (fun x y => y < x) (bL_law_120 K21 K135 K426) (o_aload 1 (o_ic (0) (o_ic (0) (o_ic (0) (o_ic (0) (o_cL 5 1 20000 tL_does (o_iload 4 (o_if2 (fun x y => ¬ x = y) (bL_law_124 K21 K135 K426) (o_aload 2 (o_ic (0) (o_ic (0) (o_ic (0) (o_ic (0) (o_cL 5 1 20000 tL_does (o_iload 4 (o_if2 (fun x y => ¬ x = y) (bL_law_124 K21 K135 K426) (bL_law_120 K21 K135 K426)))))))))))))))))))))))))))))))))))))))))))))))))))))))))
def bL_law_16 (K21 K135 K426 : ZK QQ) : ZK QQ := (o_ic (1) (o_istore 3 (o_ic (0) (o_istore 4 K21))))
set_option maxRecDepth 20000 in
theorem sL_law_425 {l : Launch} {z0 b Ln : Nat} {xs : Nat → Int32} {D : va_G} {cA : Nat → ClassId} {p : Program} {e : Env} {s : State} {m : MethodId} {below : List Frame} {meth : Method} {c : Code} {Q : State → Prop} {K21 K135 K426 : ZK QQ} (hlt : l.stackTraces = false) (C : zCx p l rmL s m #[Value.ref b] meth c cL_law 7 RL z0 D cA 0) (hX : va_X b Ln xs s s.heap) (hLn : Ln < 2 ^ 31) (hbl : b < s.heap.size) (hbz : ¬ z0 ≤ b) (HL_low : SemL l z0 b D cA yL_low (Cond.code yL_low cL_low 2 (some .int)) 0 0 2 0 tL_low) (HL_type : SemL l z0 b D cA yL_type (Cond.codeWith yL_type cL_type 3 (some .int) [(0, 5, 6, 41), (0, 5, 10, 43)]) 7 103 2 1 tL_type) (HL_does : SemL l z0 b D cA yL_does (Cond.codeWith yL_does cL_does 6 (some .int) [(0, 129, 130, 38), (0, 129, 135, 41), (0, 129, 140, 43)]) 8 158 5 1 tL_does) (HL_act : SemL l z0 b D cA yL_act (Cond.code yL_act cL_act 8 (some .int)) 9 183 2 3 tL_act) (HL_areAlike : SemL l z0 b D cA yL_areAlike (Cond.code yL_areAlike cL_areAlike 4 (some .boolean)) 9 146 2 80 tL_areAlike) (HL_areShownSo : SemL l z0 b D cA yL_areShownSo (Cond.code yL_areShownSo cL_areShownSo 11 (some .boolean)) 8 125 2 0 tL_areShownSo) (HL_areRulesSo : SemL l z0 b D cA yL_areRulesSo (Cond.code yL_areRulesSo cL_areRulesSo 6 (some .boolean)) 9 158 1 90 tL_areRulesSo) (HL_areCountedSo : SemL l z0 b D cA yL_areCountedSo (Cond.code yL_areCountedSo cL_areCountedSo 11 (some .boolean)) 9 155 4 30 tL_areCountedSo) (HL_isUndoneSo : SemL l z0 b D cA yL_isUndoneSo (Cond.code yL_isUndoneSo cL_isUndoneSo 9 (some .boolean)) 8 129 5 0 tL_isUndoneSo) (hK21 : Snd p l e rmL s m #[Value.ref b] below meth c 7 z0 b (I2 z0 b D cA 58 s) (c2 58 2352) Q 21 K21) (hK135 : Snd p l e rmL s m #[Value.ref b] below meth c 7 z0 b (I2 z0 b D cA 58 s) (c2 58 2352) Q 135 K135) (hK426 : Snd p l e rmL s m #[Value.ref b] below meth c 7 z0 b (I2 z0 b D cA 58 s) (c2 58 2352) Q 426 K426) : Snd p l e rmL s m #[Value.ref b] below meth c 7 z0 b (I2 z0 b D cA 58 s) (c2 58 2352) Q 425 (bL_law_425 K21 K135 K426) := by
  obtain ⟨hx, hb, hml, hown, hts, -⟩ := id C
  unfold bL_law_425
  refine k_iconst hx hb dL_law_425 (by decide) ?_
  exact hK426
set_option maxRecDepth 20000 in
theorem sL_law_390 {l : Launch} {z0 b Ln : Nat} {xs : Nat → Int32} {D : va_G} {cA : Nat → ClassId} {p : Program} {e : Env} {s : State} {m : MethodId} {below : List Frame} {meth : Method} {c : Code} {Q : State → Prop} {K21 K135 K426 : ZK QQ} (hlt : l.stackTraces = false) (C : zCx p l rmL s m #[Value.ref b] meth c cL_law 7 RL z0 D cA 0) (hX : va_X b Ln xs s s.heap) (hLn : Ln < 2 ^ 31) (hbl : b < s.heap.size) (hbz : ¬ z0 ≤ b) (HL_low : SemL l z0 b D cA yL_low (Cond.code yL_low cL_low 2 (some .int)) 0 0 2 0 tL_low) (HL_type : SemL l z0 b D cA yL_type (Cond.codeWith yL_type cL_type 3 (some .int) [(0, 5, 6, 41), (0, 5, 10, 43)]) 7 103 2 1 tL_type) (HL_does : SemL l z0 b D cA yL_does (Cond.codeWith yL_does cL_does 6 (some .int) [(0, 129, 130, 38), (0, 129, 135, 41), (0, 129, 140, 43)]) 8 158 5 1 tL_does) (HL_act : SemL l z0 b D cA yL_act (Cond.code yL_act cL_act 8 (some .int)) 9 183 2 3 tL_act) (HL_areAlike : SemL l z0 b D cA yL_areAlike (Cond.code yL_areAlike cL_areAlike 4 (some .boolean)) 9 146 2 80 tL_areAlike) (HL_areShownSo : SemL l z0 b D cA yL_areShownSo (Cond.code yL_areShownSo cL_areShownSo 11 (some .boolean)) 8 125 2 0 tL_areShownSo) (HL_areRulesSo : SemL l z0 b D cA yL_areRulesSo (Cond.code yL_areRulesSo cL_areRulesSo 6 (some .boolean)) 9 158 1 90 tL_areRulesSo) (HL_areCountedSo : SemL l z0 b D cA yL_areCountedSo (Cond.code yL_areCountedSo cL_areCountedSo 11 (some .boolean)) 9 155 4 30 tL_areCountedSo) (HL_isUndoneSo : SemL l z0 b D cA yL_isUndoneSo (Cond.code yL_isUndoneSo cL_isUndoneSo 9 (some .boolean)) 8 129 5 0 tL_isUndoneSo) (hK21 : Snd p l e rmL s m #[Value.ref b] below meth c 7 z0 b (I2 z0 b D cA 58 s) (c2 58 2352) Q 21 K21) (hK135 : Snd p l e rmL s m #[Value.ref b] below meth c 7 z0 b (I2 z0 b D cA 58 s) (c2 58 2352) Q 135 K135) (hK426 : Snd p l e rmL s m #[Value.ref b] below meth c 7 z0 b (I2 z0 b D cA 58 s) (c2 58 2352) Q 426 K426) : Snd p l e rmL s m #[Value.ref b] below meth c 7 z0 b (I2 z0 b D cA 58 s) (c2 58 2352) Q 390 (bL_law_390 K21 K135 K426) := by
  obtain ⟨hx, hb, hml, hown, hts, -⟩ := id C
  unfold bL_law_390
  refine k_iload_n hx hb dL_law_390 rfl ?_
  refine k_if_eq (tgt := 425) hx hb dL_law_391 (by decide) ?_ ?_
  · exact sL_law_425 hlt C hX hLn hbl hbz HL_low HL_type HL_does HL_act HL_areAlike HL_areShownSo HL_areRulesSo HL_areCountedSo HL_isUndoneSo hK21 hK135 hK426
  · refine k_aload_n hx hb dL_law_394 rfl ?_
    refine k_aload_n hx hb dL_law_395 rfl ?_
    refine k_cL C HL_areAlike zlL_131 zsL_areAlike ziL zwL_areAlike (by decide +kernel) ⟨Nat.le_of_ble_eq_true rfl, Nat.le_of_ble_eq_true rfl⟩ ⟨Nat.le_of_ble_eq_true rfl, Nat.le_of_ble_eq_true rfl⟩ dL_law_396 ?_
    refine k_if_eq (tgt := 425) hx hb dL_law_399 (by decide) ?_ ?_
    · exact sL_law_425 hlt C hX hLn hbl hbz HL_low HL_type HL_does HL_act HL_areAlike HL_areShownSo HL_areRulesSo HL_areCountedSo HL_isUndoneSo hK21 hK135 hK426
    · refine k_aload_n hx hb dL_law_402 rfl ?_
      refine k_cL C HL_areRulesSo zlL_139 zsL_areRulesSo ziL zwL_areRulesSo (by decide +kernel) ⟨Nat.le_of_ble_eq_true rfl, Nat.le_of_ble_eq_true rfl⟩ ⟨Nat.le_of_ble_eq_true rfl, Nat.le_of_ble_eq_true rfl⟩ dL_law_403 ?_
      refine k_if_eq (tgt := 425) hx hb dL_law_406 (by decide) ?_ ?_
      · exact sL_law_425 hlt C hX hLn hbl hbz HL_low HL_type HL_does HL_act HL_areAlike HL_areShownSo HL_areRulesSo HL_areCountedSo HL_isUndoneSo hK21 hK135 hK426
      · refine k_aload_n hx hb dL_law_409 rfl ?_
        refine k_iconst hx hb dL_law_410 (by decide) ?_
        refine k_sipush hx hb dL_law_411 (by decide) ?_
        refine k_iconst hx hb dL_law_414 (by decide) ?_
        refine k_cL C HL_areCountedSo zlL_143 zsL_areCountedSo ziL zwL_areCountedSo (by decide +kernel) ⟨Nat.le_of_ble_eq_true rfl, Nat.le_of_ble_eq_true rfl⟩ ⟨Nat.le_of_ble_eq_true rfl, Nat.le_of_ble_eq_true rfl⟩ dL_law_415 ?_
        refine k_if_eq (tgt := 425) hx hb dL_law_418 (by decide) ?_ ?_
        · exact sL_law_425 hlt C hX hLn hbl hbz HL_low HL_type HL_does HL_act HL_areAlike HL_areShownSo HL_areRulesSo HL_areCountedSo HL_isUndoneSo hK21 hK135 hK426
        · refine k_iconst hx hb dL_law_421 (by decide) ?_
          refine k_goto (tgt := 426) hx hb dL_law_422 (by decide) ?_
          exact hK426
set_option maxRecDepth 20000 in
theorem sL_law_384 {l : Launch} {z0 b Ln : Nat} {xs : Nat → Int32} {D : va_G} {cA : Nat → ClassId} {p : Program} {e : Env} {s : State} {m : MethodId} {below : List Frame} {meth : Method} {c : Code} {Q : State → Prop} {K21 K135 K426 : ZK QQ} (hlt : l.stackTraces = false) (C : zCx p l rmL s m #[Value.ref b] meth c cL_law 7 RL z0 D cA 0) (hX : va_X b Ln xs s s.heap) (hLn : Ln < 2 ^ 31) (hbl : b < s.heap.size) (hbz : ¬ z0 ≤ b) (HL_low : SemL l z0 b D cA yL_low (Cond.code yL_low cL_low 2 (some .int)) 0 0 2 0 tL_low) (HL_type : SemL l z0 b D cA yL_type (Cond.codeWith yL_type cL_type 3 (some .int) [(0, 5, 6, 41), (0, 5, 10, 43)]) 7 103 2 1 tL_type) (HL_does : SemL l z0 b D cA yL_does (Cond.codeWith yL_does cL_does 6 (some .int) [(0, 129, 130, 38), (0, 129, 135, 41), (0, 129, 140, 43)]) 8 158 5 1 tL_does) (HL_act : SemL l z0 b D cA yL_act (Cond.code yL_act cL_act 8 (some .int)) 9 183 2 3 tL_act) (HL_areAlike : SemL l z0 b D cA yL_areAlike (Cond.code yL_areAlike cL_areAlike 4 (some .boolean)) 9 146 2 80 tL_areAlike) (HL_areShownSo : SemL l z0 b D cA yL_areShownSo (Cond.code yL_areShownSo cL_areShownSo 11 (some .boolean)) 8 125 2 0 tL_areShownSo) (HL_areRulesSo : SemL l z0 b D cA yL_areRulesSo (Cond.code yL_areRulesSo cL_areRulesSo 6 (some .boolean)) 9 158 1 90 tL_areRulesSo) (HL_areCountedSo : SemL l z0 b D cA yL_areCountedSo (Cond.code yL_areCountedSo cL_areCountedSo 11 (some .boolean)) 9 155 4 30 tL_areCountedSo) (HL_isUndoneSo : SemL l z0 b D cA yL_isUndoneSo (Cond.code yL_isUndoneSo cL_isUndoneSo 9 (some .boolean)) 8 129 5 0 tL_isUndoneSo) (hK21 : Snd p l e rmL s m #[Value.ref b] below meth c 7 z0 b (I2 z0 b D cA 58 s) (c2 58 2352) Q 21 K21) (hK135 : Snd p l e rmL s m #[Value.ref b] below meth c 7 z0 b (I2 z0 b D cA 58 s) (c2 58 2352) Q 135 K135) (hK426 : Snd p l e rmL s m #[Value.ref b] below meth c 7 z0 b (I2 z0 b D cA 58 s) (c2 58 2352) Q 426 K426) : Snd p l e rmL s m #[Value.ref b] below meth c 7 z0 b (I2 z0 b D cA 58 s) (c2 58 2352) Q 384 (bL_law_384 K21 K135 K426) := by
  obtain ⟨hx, hb, hml, hown, hts, -⟩ := id C
  unfold bL_law_384
  refine k_iinc hx hb dL_law_384 (by decide) ?_
  refine k_goto (tgt := 135) hx hb dL_law_387 (by decide) ?_
  exact hK135
set_option maxRecDepth 20000 in
theorem sL_law_383 {l : Launch} {z0 b Ln : Nat} {xs : Nat → Int32} {D : va_G} {cA : Nat → ClassId} {p : Program} {e : Env} {s : State} {m : MethodId} {below : List Frame} {meth : Method} {c : Code} {Q : State → Prop} {K21 K135 K426 : ZK QQ} (hlt : l.stackTraces = false) (C : zCx p l rmL s m #[Value.ref b] meth c cL_law 7 RL z0 D cA 0) (hX : va_X b Ln xs s s.heap) (hLn : Ln < 2 ^ 31) (hbl : b < s.heap.size) (hbz : ¬ z0 ≤ b) (HL_low : SemL l z0 b D cA yL_low (Cond.code yL_low cL_low 2 (some .int)) 0 0 2 0 tL_low) (HL_type : SemL l z0 b D cA yL_type (Cond.codeWith yL_type cL_type 3 (some .int) [(0, 5, 6, 41), (0, 5, 10, 43)]) 7 103 2 1 tL_type) (HL_does : SemL l z0 b D cA yL_does (Cond.codeWith yL_does cL_does 6 (some .int) [(0, 129, 130, 38), (0, 129, 135, 41), (0, 129, 140, 43)]) 8 158 5 1 tL_does) (HL_act : SemL l z0 b D cA yL_act (Cond.code yL_act cL_act 8 (some .int)) 9 183 2 3 tL_act) (HL_areAlike : SemL l z0 b D cA yL_areAlike (Cond.code yL_areAlike cL_areAlike 4 (some .boolean)) 9 146 2 80 tL_areAlike) (HL_areShownSo : SemL l z0 b D cA yL_areShownSo (Cond.code yL_areShownSo cL_areShownSo 11 (some .boolean)) 8 125 2 0 tL_areShownSo) (HL_areRulesSo : SemL l z0 b D cA yL_areRulesSo (Cond.code yL_areRulesSo cL_areRulesSo 6 (some .boolean)) 9 158 1 90 tL_areRulesSo) (HL_areCountedSo : SemL l z0 b D cA yL_areCountedSo (Cond.code yL_areCountedSo cL_areCountedSo 11 (some .boolean)) 9 155 4 30 tL_areCountedSo) (HL_isUndoneSo : SemL l z0 b D cA yL_isUndoneSo (Cond.code yL_isUndoneSo cL_isUndoneSo 9 (some .boolean)) 8 129 5 0 tL_isUndoneSo) (hK21 : Snd p l e rmL s m #[Value.ref b] below meth c 7 z0 b (I2 z0 b D cA 58 s) (c2 58 2352) Q 21 K21) (hK135 : Snd p l e rmL s m #[Value.ref b] below meth c 7 z0 b (I2 z0 b D cA 58 s) (c2 58 2352) Q 135 K135) (hK426 : Snd p l e rmL s m #[Value.ref b] below meth c 7 z0 b (I2 z0 b D cA 58 s) (c2 58 2352) Q 426 K426) : Snd p l e rmL s m #[Value.ref b] below meth c 7 z0 b (I2 z0 b D cA 58 s) (c2 58 2352) Q 383 (bL_law_383 K21 K135 K426) := by
  obtain ⟨hx, hb, hml, hown, hts, -⟩ := id C
  unfold bL_law_383
  refine k_istore_n hx hb dL_law_383 rfl ?_
  exact sL_law_384 hlt C hX hLn hbl hbz HL_low HL_type HL_does HL_act HL_areAlike HL_areShownSo HL_areRulesSo HL_areCountedSo HL_isUndoneSo hK21 hK135 hK426
set_option maxRecDepth 20000 in
theorem sL_law_382 {l : Launch} {z0 b Ln : Nat} {xs : Nat → Int32} {D : va_G} {cA : Nat → ClassId} {p : Program} {e : Env} {s : State} {m : MethodId} {below : List Frame} {meth : Method} {c : Code} {Q : State → Prop} {K21 K135 K426 : ZK QQ} (hlt : l.stackTraces = false) (C : zCx p l rmL s m #[Value.ref b] meth c cL_law 7 RL z0 D cA 0) (hX : va_X b Ln xs s s.heap) (hLn : Ln < 2 ^ 31) (hbl : b < s.heap.size) (hbz : ¬ z0 ≤ b) (HL_low : SemL l z0 b D cA yL_low (Cond.code yL_low cL_low 2 (some .int)) 0 0 2 0 tL_low) (HL_type : SemL l z0 b D cA yL_type (Cond.codeWith yL_type cL_type 3 (some .int) [(0, 5, 6, 41), (0, 5, 10, 43)]) 7 103 2 1 tL_type) (HL_does : SemL l z0 b D cA yL_does (Cond.codeWith yL_does cL_does 6 (some .int) [(0, 129, 130, 38), (0, 129, 135, 41), (0, 129, 140, 43)]) 8 158 5 1 tL_does) (HL_act : SemL l z0 b D cA yL_act (Cond.code yL_act cL_act 8 (some .int)) 9 183 2 3 tL_act) (HL_areAlike : SemL l z0 b D cA yL_areAlike (Cond.code yL_areAlike cL_areAlike 4 (some .boolean)) 9 146 2 80 tL_areAlike) (HL_areShownSo : SemL l z0 b D cA yL_areShownSo (Cond.code yL_areShownSo cL_areShownSo 11 (some .boolean)) 8 125 2 0 tL_areShownSo) (HL_areRulesSo : SemL l z0 b D cA yL_areRulesSo (Cond.code yL_areRulesSo cL_areRulesSo 6 (some .boolean)) 9 158 1 90 tL_areRulesSo) (HL_areCountedSo : SemL l z0 b D cA yL_areCountedSo (Cond.code yL_areCountedSo cL_areCountedSo 11 (some .boolean)) 9 155 4 30 tL_areCountedSo) (HL_isUndoneSo : SemL l z0 b D cA yL_isUndoneSo (Cond.code yL_isUndoneSo cL_isUndoneSo 9 (some .boolean)) 8 129 5 0 tL_isUndoneSo) (hK21 : Snd p l e rmL s m #[Value.ref b] below meth c 7 z0 b (I2 z0 b D cA 58 s) (c2 58 2352) Q 21 K21) (hK135 : Snd p l e rmL s m #[Value.ref b] below meth c 7 z0 b (I2 z0 b D cA 58 s) (c2 58 2352) Q 135 K135) (hK426 : Snd p l e rmL s m #[Value.ref b] below meth c 7 z0 b (I2 z0 b D cA 58 s) (c2 58 2352) Q 426 K426) : Snd p l e rmL s m #[Value.ref b] below meth c 7 z0 b (I2 z0 b D cA 58 s) (c2 58 2352) Q 382 (bL_law_382 K21 K135 K426) := by
  obtain ⟨hx, hb, hml, hown, hts, -⟩ := id C
  unfold bL_law_382
  refine k_iconst hx hb dL_law_382 (by decide) ?_
  exact sL_law_383 hlt C hX hLn hbl hbz HL_low HL_type HL_does HL_act HL_areAlike HL_areShownSo HL_areRulesSo HL_areCountedSo HL_isUndoneSo hK21 hK135 hK426
set_option maxRecDepth 20000 in
theorem sL_law_324 {l : Launch} {z0 b Ln : Nat} {xs : Nat → Int32} {D : va_G} {cA : Nat → ClassId} {p : Program} {e : Env} {s : State} {m : MethodId} {below : List Frame} {meth : Method} {c : Code} {Q : State → Prop} {K21 K135 K426 : ZK QQ} (hlt : l.stackTraces = false) (C : zCx p l rmL s m #[Value.ref b] meth c cL_law 7 RL z0 D cA 0) (hX : va_X b Ln xs s s.heap) (hLn : Ln < 2 ^ 31) (hbl : b < s.heap.size) (hbz : ¬ z0 ≤ b) (HL_low : SemL l z0 b D cA yL_low (Cond.code yL_low cL_low 2 (some .int)) 0 0 2 0 tL_low) (HL_type : SemL l z0 b D cA yL_type (Cond.codeWith yL_type cL_type 3 (some .int) [(0, 5, 6, 41), (0, 5, 10, 43)]) 7 103 2 1 tL_type) (HL_does : SemL l z0 b D cA yL_does (Cond.codeWith yL_does cL_does 6 (some .int) [(0, 129, 130, 38), (0, 129, 135, 41), (0, 129, 140, 43)]) 8 158 5 1 tL_does) (HL_act : SemL l z0 b D cA yL_act (Cond.code yL_act cL_act 8 (some .int)) 9 183 2 3 tL_act) (HL_areAlike : SemL l z0 b D cA yL_areAlike (Cond.code yL_areAlike cL_areAlike 4 (some .boolean)) 9 146 2 80 tL_areAlike) (HL_areShownSo : SemL l z0 b D cA yL_areShownSo (Cond.code yL_areShownSo cL_areShownSo 11 (some .boolean)) 8 125 2 0 tL_areShownSo) (HL_areRulesSo : SemL l z0 b D cA yL_areRulesSo (Cond.code yL_areRulesSo cL_areRulesSo 6 (some .boolean)) 9 158 1 90 tL_areRulesSo) (HL_areCountedSo : SemL l z0 b D cA yL_areCountedSo (Cond.code yL_areCountedSo cL_areCountedSo 11 (some .boolean)) 9 155 4 30 tL_areCountedSo) (HL_isUndoneSo : SemL l z0 b D cA yL_isUndoneSo (Cond.code yL_isUndoneSo cL_isUndoneSo 9 (some .boolean)) 8 129 5 0 tL_isUndoneSo) (hK21 : Snd p l e rmL s m #[Value.ref b] below meth c 7 z0 b (I2 z0 b D cA 58 s) (c2 58 2352) Q 21 K21) (hK135 : Snd p l e rmL s m #[Value.ref b] below meth c 7 z0 b (I2 z0 b D cA 58 s) (c2 58 2352) Q 135 K135) (hK426 : Snd p l e rmL s m #[Value.ref b] below meth c 7 z0 b (I2 z0 b D cA 58 s) (c2 58 2352) Q 426 K426) : Snd p l e rmL s m #[Value.ref b] below meth c 7 z0 b (I2 z0 b D cA 58 s) (c2 58 2352) Q 324 (bL_law_324 K21 K135 K426) := by
  obtain ⟨hx, hb, hml, hown, hts, -⟩ := id C
  unfold bL_law_324
  refine k_iload hx hb dL_law_324 ?_
  refine k_bipush hx hb dL_law_326 (by decide) ?_
  refine k_irem hx hb dL_law_328 ?_
  refine k_bipush hx hb dL_law_329 (by decide) ?_
  refine k_icmp_ne (tgt := 384) hx hb dL_law_331 (by decide) ?_ ?_
  · exact sL_law_384 hlt C hX hLn hbl hbz HL_low HL_type HL_does HL_act HL_areAlike HL_areShownSo HL_areRulesSo HL_areCountedSo HL_isUndoneSo hK21 hK135 hK426
  · refine k_iload_n hx hb dL_law_334 rfl ?_
    refine k_if_eq (tgt := 382) hx hb dL_law_335 (by decide) ?_ ?_
    · exact sL_law_382 hlt C hX hLn hbl hbz HL_low HL_type HL_does HL_act HL_areAlike HL_areShownSo HL_areRulesSo HL_areCountedSo HL_isUndoneSo hK21 hK135 hK426
    · refine k_aload_n hx hb dL_law_338 rfl ?_
      refine k_aload_n hx hb dL_law_339 rfl ?_
      refine k_iload hx hb dL_law_340 ?_
      refine k_iconst hx hb dL_law_342 (by decide) ?_
      refine k_ishr hx hb dL_law_343 ?_
      refine k_aload_n hx hb dL_law_344 rfl ?_
      refine k_rd0 C (i := false) (MB := 20000) (g := (fun μ => gThings μ)) (wp := w11) (fun z0 N => mX5_things hlt) (fun σ μ h => sim_things h) w11_n (fun μ => ro_things) rfl zlL_73 zmX5_things zvX5_things ziX5 zcX5_things (by decide +kernel) ⟨Nat.le_of_ble_eq_true rfl, Nat.le_of_ble_eq_true rfl⟩ ⟨Nat.le_of_ble_eq_true rfl, Nat.le_of_ble_eq_true rfl⟩ dL_law_345 ?_
      refine k_cL C HL_low zlL_57 zsL_low ziL zwL_low (by decide +kernel) ⟨Nat.le_of_ble_eq_true rfl, Nat.le_of_ble_eq_true rfl⟩ ⟨Nat.le_of_ble_eq_true rfl, Nat.le_of_ble_eq_true rfl⟩ dL_law_348 ?_
      refine k_iload hx hb dL_law_351 ?_
      refine k_bipush hx hb dL_law_353 (by decide) ?_
      refine k_ishr hx hb dL_law_355 ?_
      refine k_aload_n hx hb dL_law_356 rfl ?_
      refine k_rd0 C (i := false) (MB := 20000) (g := (fun μ => gTags μ)) (wp := w11) (fun z0 N => mX5_tags hlt) (fun σ μ h => sim_tags h) w11_n (fun μ => ro_tags) rfl zlL_63 zmX5_tags zvX5_tags ziX5 zcX5_tags (by decide +kernel) ⟨Nat.le_of_ble_eq_true rfl, Nat.le_of_ble_eq_true rfl⟩ ⟨Nat.le_of_ble_eq_true rfl, Nat.le_of_ble_eq_true rfl⟩ dL_law_357 ?_
      refine k_cL C HL_low zlL_57 zsL_low ziL zwL_low (by decide +kernel) ⟨Nat.le_of_ble_eq_true rfl, Nat.le_of_ble_eq_true rfl⟩ ⟨Nat.le_of_ble_eq_true rfl, Nat.le_of_ble_eq_true rfl⟩ dL_law_360 ?_
      refine k_iload hx hb dL_law_363 ?_
      refine k_bipush hx hb dL_law_365 (by decide) ?_
      refine k_ishr hx hb dL_law_367 ?_
      refine k_iconst hx hb dL_law_368 (by decide) ?_
      refine k_cL C HL_low zlL_57 zsL_low ziL zwL_low (by decide +kernel) ⟨Nat.le_of_ble_eq_true rfl, Nat.le_of_ble_eq_true rfl⟩ ⟨Nat.le_of_ble_eq_true rfl, Nat.le_of_ble_eq_true rfl⟩ dL_law_369 ?_
      refine k_cL C HL_isUndoneSo zlL_147 zsL_isUndoneSo ziL zwL_isUndoneSo (by decide +kernel) ⟨Nat.le_of_ble_eq_true rfl, Nat.le_of_ble_eq_true rfl⟩ ⟨Nat.le_of_ble_eq_true rfl, Nat.le_of_ble_eq_true rfl⟩ dL_law_372 ?_
      refine k_if_eq (tgt := 382) hx hb dL_law_375 (by decide) ?_ ?_
      · exact sL_law_382 hlt C hX hLn hbl hbz HL_low HL_type HL_does HL_act HL_areAlike HL_areShownSo HL_areRulesSo HL_areCountedSo HL_isUndoneSo hK21 hK135 hK426
      · refine k_iconst hx hb dL_law_378 (by decide) ?_
        refine k_goto (tgt := 383) hx hb dL_law_379 (by decide) ?_
        exact sL_law_383 hlt C hX hLn hbl hbz HL_low HL_type HL_does HL_act HL_areAlike HL_areShownSo HL_areRulesSo HL_areCountedSo HL_isUndoneSo hK21 hK135 hK426
set_option maxRecDepth 20000 in
theorem sL_law_323 {l : Launch} {z0 b Ln : Nat} {xs : Nat → Int32} {D : va_G} {cA : Nat → ClassId} {p : Program} {e : Env} {s : State} {m : MethodId} {below : List Frame} {meth : Method} {c : Code} {Q : State → Prop} {K21 K135 K426 : ZK QQ} (hlt : l.stackTraces = false) (C : zCx p l rmL s m #[Value.ref b] meth c cL_law 7 RL z0 D cA 0) (hX : va_X b Ln xs s s.heap) (hLn : Ln < 2 ^ 31) (hbl : b < s.heap.size) (hbz : ¬ z0 ≤ b) (HL_low : SemL l z0 b D cA yL_low (Cond.code yL_low cL_low 2 (some .int)) 0 0 2 0 tL_low) (HL_type : SemL l z0 b D cA yL_type (Cond.codeWith yL_type cL_type 3 (some .int) [(0, 5, 6, 41), (0, 5, 10, 43)]) 7 103 2 1 tL_type) (HL_does : SemL l z0 b D cA yL_does (Cond.codeWith yL_does cL_does 6 (some .int) [(0, 129, 130, 38), (0, 129, 135, 41), (0, 129, 140, 43)]) 8 158 5 1 tL_does) (HL_act : SemL l z0 b D cA yL_act (Cond.code yL_act cL_act 8 (some .int)) 9 183 2 3 tL_act) (HL_areAlike : SemL l z0 b D cA yL_areAlike (Cond.code yL_areAlike cL_areAlike 4 (some .boolean)) 9 146 2 80 tL_areAlike) (HL_areShownSo : SemL l z0 b D cA yL_areShownSo (Cond.code yL_areShownSo cL_areShownSo 11 (some .boolean)) 8 125 2 0 tL_areShownSo) (HL_areRulesSo : SemL l z0 b D cA yL_areRulesSo (Cond.code yL_areRulesSo cL_areRulesSo 6 (some .boolean)) 9 158 1 90 tL_areRulesSo) (HL_areCountedSo : SemL l z0 b D cA yL_areCountedSo (Cond.code yL_areCountedSo cL_areCountedSo 11 (some .boolean)) 9 155 4 30 tL_areCountedSo) (HL_isUndoneSo : SemL l z0 b D cA yL_isUndoneSo (Cond.code yL_isUndoneSo cL_isUndoneSo 9 (some .boolean)) 8 129 5 0 tL_isUndoneSo) (hK21 : Snd p l e rmL s m #[Value.ref b] below meth c 7 z0 b (I2 z0 b D cA 58 s) (c2 58 2352) Q 21 K21) (hK135 : Snd p l e rmL s m #[Value.ref b] below meth c 7 z0 b (I2 z0 b D cA 58 s) (c2 58 2352) Q 135 K135) (hK426 : Snd p l e rmL s m #[Value.ref b] below meth c 7 z0 b (I2 z0 b D cA 58 s) (c2 58 2352) Q 426 K426) : Snd p l e rmL s m #[Value.ref b] below meth c 7 z0 b (I2 z0 b D cA 58 s) (c2 58 2352) Q 323 (bL_law_323 K21 K135 K426) := by
  obtain ⟨hx, hb, hml, hown, hts, -⟩ := id C
  unfold bL_law_323
  refine k_istore_n hx hb dL_law_323 rfl ?_
  exact sL_law_324 hlt C hX hLn hbl hbz HL_low HL_type HL_does HL_act HL_areAlike HL_areShownSo HL_areRulesSo HL_areCountedSo HL_isUndoneSo hK21 hK135 hK426
set_option maxRecDepth 20000 in
theorem sL_law_322 {l : Launch} {z0 b Ln : Nat} {xs : Nat → Int32} {D : va_G} {cA : Nat → ClassId} {p : Program} {e : Env} {s : State} {m : MethodId} {below : List Frame} {meth : Method} {c : Code} {Q : State → Prop} {K21 K135 K426 : ZK QQ} (hlt : l.stackTraces = false) (C : zCx p l rmL s m #[Value.ref b] meth c cL_law 7 RL z0 D cA 0) (hX : va_X b Ln xs s s.heap) (hLn : Ln < 2 ^ 31) (hbl : b < s.heap.size) (hbz : ¬ z0 ≤ b) (HL_low : SemL l z0 b D cA yL_low (Cond.code yL_low cL_low 2 (some .int)) 0 0 2 0 tL_low) (HL_type : SemL l z0 b D cA yL_type (Cond.codeWith yL_type cL_type 3 (some .int) [(0, 5, 6, 41), (0, 5, 10, 43)]) 7 103 2 1 tL_type) (HL_does : SemL l z0 b D cA yL_does (Cond.codeWith yL_does cL_does 6 (some .int) [(0, 129, 130, 38), (0, 129, 135, 41), (0, 129, 140, 43)]) 8 158 5 1 tL_does) (HL_act : SemL l z0 b D cA yL_act (Cond.code yL_act cL_act 8 (some .int)) 9 183 2 3 tL_act) (HL_areAlike : SemL l z0 b D cA yL_areAlike (Cond.code yL_areAlike cL_areAlike 4 (some .boolean)) 9 146 2 80 tL_areAlike) (HL_areShownSo : SemL l z0 b D cA yL_areShownSo (Cond.code yL_areShownSo cL_areShownSo 11 (some .boolean)) 8 125 2 0 tL_areShownSo) (HL_areRulesSo : SemL l z0 b D cA yL_areRulesSo (Cond.code yL_areRulesSo cL_areRulesSo 6 (some .boolean)) 9 158 1 90 tL_areRulesSo) (HL_areCountedSo : SemL l z0 b D cA yL_areCountedSo (Cond.code yL_areCountedSo cL_areCountedSo 11 (some .boolean)) 9 155 4 30 tL_areCountedSo) (HL_isUndoneSo : SemL l z0 b D cA yL_isUndoneSo (Cond.code yL_isUndoneSo cL_isUndoneSo 9 (some .boolean)) 8 129 5 0 tL_isUndoneSo) (hK21 : Snd p l e rmL s m #[Value.ref b] below meth c 7 z0 b (I2 z0 b D cA 58 s) (c2 58 2352) Q 21 K21) (hK135 : Snd p l e rmL s m #[Value.ref b] below meth c 7 z0 b (I2 z0 b D cA 58 s) (c2 58 2352) Q 135 K135) (hK426 : Snd p l e rmL s m #[Value.ref b] below meth c 7 z0 b (I2 z0 b D cA 58 s) (c2 58 2352) Q 426 K426) : Snd p l e rmL s m #[Value.ref b] below meth c 7 z0 b (I2 z0 b D cA 58 s) (c2 58 2352) Q 322 (bL_law_322 K21 K135 K426) := by
  obtain ⟨hx, hb, hml, hown, hts, -⟩ := id C
  unfold bL_law_322
  refine k_iconst hx hb dL_law_322 (by decide) ?_
  exact sL_law_323 hlt C hX hLn hbl hbz HL_low HL_type HL_does HL_act HL_areAlike HL_areShownSo HL_areRulesSo HL_areCountedSo HL_isUndoneSo hK21 hK135 hK426
set_option maxRecDepth 20000 in
theorem sL_law_248 {l : Launch} {z0 b Ln : Nat} {xs : Nat → Int32} {D : va_G} {cA : Nat → ClassId} {p : Program} {e : Env} {s : State} {m : MethodId} {below : List Frame} {meth : Method} {c : Code} {Q : State → Prop} {K21 K135 K426 : ZK QQ} (hlt : l.stackTraces = false) (C : zCx p l rmL s m #[Value.ref b] meth c cL_law 7 RL z0 D cA 0) (hX : va_X b Ln xs s s.heap) (hLn : Ln < 2 ^ 31) (hbl : b < s.heap.size) (hbz : ¬ z0 ≤ b) (HL_low : SemL l z0 b D cA yL_low (Cond.code yL_low cL_low 2 (some .int)) 0 0 2 0 tL_low) (HL_type : SemL l z0 b D cA yL_type (Cond.codeWith yL_type cL_type 3 (some .int) [(0, 5, 6, 41), (0, 5, 10, 43)]) 7 103 2 1 tL_type) (HL_does : SemL l z0 b D cA yL_does (Cond.codeWith yL_does cL_does 6 (some .int) [(0, 129, 130, 38), (0, 129, 135, 41), (0, 129, 140, 43)]) 8 158 5 1 tL_does) (HL_act : SemL l z0 b D cA yL_act (Cond.code yL_act cL_act 8 (some .int)) 9 183 2 3 tL_act) (HL_areAlike : SemL l z0 b D cA yL_areAlike (Cond.code yL_areAlike cL_areAlike 4 (some .boolean)) 9 146 2 80 tL_areAlike) (HL_areShownSo : SemL l z0 b D cA yL_areShownSo (Cond.code yL_areShownSo cL_areShownSo 11 (some .boolean)) 8 125 2 0 tL_areShownSo) (HL_areRulesSo : SemL l z0 b D cA yL_areRulesSo (Cond.code yL_areRulesSo cL_areRulesSo 6 (some .boolean)) 9 158 1 90 tL_areRulesSo) (HL_areCountedSo : SemL l z0 b D cA yL_areCountedSo (Cond.code yL_areCountedSo cL_areCountedSo 11 (some .boolean)) 9 155 4 30 tL_areCountedSo) (HL_isUndoneSo : SemL l z0 b D cA yL_isUndoneSo (Cond.code yL_isUndoneSo cL_isUndoneSo 9 (some .boolean)) 8 129 5 0 tL_isUndoneSo) (hK21 : Snd p l e rmL s m #[Value.ref b] below meth c 7 z0 b (I2 z0 b D cA 58 s) (c2 58 2352) Q 21 K21) (hK135 : Snd p l e rmL s m #[Value.ref b] below meth c 7 z0 b (I2 z0 b D cA 58 s) (c2 58 2352) Q 135 K135) (hK426 : Snd p l e rmL s m #[Value.ref b] below meth c 7 z0 b (I2 z0 b D cA 58 s) (c2 58 2352) Q 426 K426) : Snd p l e rmL s m #[Value.ref b] below meth c 7 z0 b (I2 z0 b D cA 58 s) (c2 58 2352) Q 248 (bL_law_248 K21 K135 K426) := by
  obtain ⟨hx, hb, hml, hown, hts, -⟩ := id C
  unfold bL_law_248
  refine k_istore_n hx hb dL_law_248 rfl ?_
  refine k_iload hx hb dL_law_249 ?_
  refine k_bipush hx hb dL_law_251 (by decide) ?_
  refine k_irem hx hb dL_law_253 ?_
  refine k_iconst hx hb dL_law_254 (by decide) ?_
  refine k_icmp_ne (tgt := 324) hx hb dL_law_255 (by decide) ?_ ?_
  · exact sL_law_324 hlt C hX hLn hbl hbz HL_low HL_type HL_does HL_act HL_areAlike HL_areShownSo HL_areRulesSo HL_areCountedSo HL_isUndoneSo hK21 hK135 hK426
  · refine k_iload_n hx hb dL_law_258 rfl ?_
    refine k_if_eq (tgt := 322) hx hb dL_law_259 (by decide) ?_ ?_
    · exact sL_law_322 hlt C hX hLn hbl hbz HL_low HL_type HL_does HL_act HL_areAlike HL_areShownSo HL_areRulesSo HL_areCountedSo HL_isUndoneSo hK21 hK135 hK426
    · refine k_aload_n hx hb dL_law_262 rfl ?_
      refine k_cL C HL_areRulesSo zlL_139 zsL_areRulesSo ziL zwL_areRulesSo (by decide +kernel) ⟨Nat.le_of_ble_eq_true rfl, Nat.le_of_ble_eq_true rfl⟩ ⟨Nat.le_of_ble_eq_true rfl, Nat.le_of_ble_eq_true rfl⟩ dL_law_263 ?_
      refine k_if_eq (tgt := 322) hx hb dL_law_266 (by decide) ?_ ?_
      · exact sL_law_322 hlt C hX hLn hbl hbz HL_low HL_type HL_does HL_act HL_areAlike HL_areShownSo HL_areRulesSo HL_areCountedSo HL_isUndoneSo hK21 hK135 hK426
      · refine k_aload_n hx hb dL_law_269 rfl ?_
        refine k_iconst hx hb dL_law_270 (by decide) ?_
        refine k_iload hx hb dL_law_271 ?_
        refine k_iconst hx hb dL_law_273 (by decide) ?_
        refine k_ishr hx hb dL_law_274 ?_
        refine k_bipush hx hb dL_law_275 (by decide) ?_
        refine k_cL C HL_low zlL_57 zsL_low ziL zwL_low (by decide +kernel) ⟨Nat.le_of_ble_eq_true rfl, Nat.le_of_ble_eq_true rfl⟩ ⟨Nat.le_of_ble_eq_true rfl, Nat.le_of_ble_eq_true rfl⟩ dL_law_277 ?_
        refine k_ishl hx hb dL_law_280 ?_
        refine k_iload hx hb dL_law_281 ?_
        refine k_bipush hx hb dL_law_283 (by decide) ?_
        refine k_ishr hx hb dL_law_285 ?_
        refine k_sipush hx hb dL_law_286 (by decide) ?_
        refine k_cL C HL_low zlL_57 zsL_low ziL zwL_low (by decide +kernel) ⟨Nat.le_of_ble_eq_true rfl, Nat.le_of_ble_eq_true rfl⟩ ⟨Nat.le_of_ble_eq_true rfl, Nat.le_of_ble_eq_true rfl⟩ dL_law_289 ?_
        refine k_iload hx hb dL_law_292 ?_
        refine k_bipush hx hb dL_law_294 (by decide) ?_
        refine k_ishr hx hb dL_law_296 ?_
        refine k_iconst hx hb dL_law_297 (by decide) ?_
        refine k_iand hx hb dL_law_298 ?_
        refine k_iconst hx hb dL_law_299 (by decide) ?_
        refine k_iload hx hb dL_law_300 ?_
        refine k_bipush hx hb dL_law_302 (by decide) ?_
        refine k_ishr hx hb dL_law_304 ?_
        refine k_bipush hx hb dL_law_305 (by decide) ?_
        refine k_cL C HL_low zlL_57 zsL_low ziL zwL_low (by decide +kernel) ⟨Nat.le_of_ble_eq_true rfl, Nat.le_of_ble_eq_true rfl⟩ ⟨Nat.le_of_ble_eq_true rfl, Nat.le_of_ble_eq_true rfl⟩ dL_law_307 ?_
        refine k_ishl hx hb dL_law_310 ?_
        refine k_imul hx hb dL_law_311 ?_
        refine k_cL C HL_areCountedSo zlL_143 zsL_areCountedSo ziL zwL_areCountedSo (by decide +kernel) ⟨Nat.le_of_ble_eq_true rfl, Nat.le_of_ble_eq_true rfl⟩ ⟨Nat.le_of_ble_eq_true rfl, Nat.le_of_ble_eq_true rfl⟩ dL_law_312 ?_
        refine k_if_eq (tgt := 322) hx hb dL_law_315 (by decide) ?_ ?_
        · exact sL_law_322 hlt C hX hLn hbl hbz HL_low HL_type HL_does HL_act HL_areAlike HL_areShownSo HL_areRulesSo HL_areCountedSo HL_isUndoneSo hK21 hK135 hK426
        · refine k_iconst hx hb dL_law_318 (by decide) ?_
          refine k_goto (tgt := 323) hx hb dL_law_319 (by decide) ?_
          exact sL_law_323 hlt C hX hLn hbl hbz HL_low HL_type HL_does HL_act HL_areAlike HL_areShownSo HL_areRulesSo HL_areCountedSo HL_isUndoneSo hK21 hK135 hK426
set_option maxRecDepth 20000 in
theorem sL_law_247 {l : Launch} {z0 b Ln : Nat} {xs : Nat → Int32} {D : va_G} {cA : Nat → ClassId} {p : Program} {e : Env} {s : State} {m : MethodId} {below : List Frame} {meth : Method} {c : Code} {Q : State → Prop} {K21 K135 K426 : ZK QQ} (hlt : l.stackTraces = false) (C : zCx p l rmL s m #[Value.ref b] meth c cL_law 7 RL z0 D cA 0) (hX : va_X b Ln xs s s.heap) (hLn : Ln < 2 ^ 31) (hbl : b < s.heap.size) (hbz : ¬ z0 ≤ b) (HL_low : SemL l z0 b D cA yL_low (Cond.code yL_low cL_low 2 (some .int)) 0 0 2 0 tL_low) (HL_type : SemL l z0 b D cA yL_type (Cond.codeWith yL_type cL_type 3 (some .int) [(0, 5, 6, 41), (0, 5, 10, 43)]) 7 103 2 1 tL_type) (HL_does : SemL l z0 b D cA yL_does (Cond.codeWith yL_does cL_does 6 (some .int) [(0, 129, 130, 38), (0, 129, 135, 41), (0, 129, 140, 43)]) 8 158 5 1 tL_does) (HL_act : SemL l z0 b D cA yL_act (Cond.code yL_act cL_act 8 (some .int)) 9 183 2 3 tL_act) (HL_areAlike : SemL l z0 b D cA yL_areAlike (Cond.code yL_areAlike cL_areAlike 4 (some .boolean)) 9 146 2 80 tL_areAlike) (HL_areShownSo : SemL l z0 b D cA yL_areShownSo (Cond.code yL_areShownSo cL_areShownSo 11 (some .boolean)) 8 125 2 0 tL_areShownSo) (HL_areRulesSo : SemL l z0 b D cA yL_areRulesSo (Cond.code yL_areRulesSo cL_areRulesSo 6 (some .boolean)) 9 158 1 90 tL_areRulesSo) (HL_areCountedSo : SemL l z0 b D cA yL_areCountedSo (Cond.code yL_areCountedSo cL_areCountedSo 11 (some .boolean)) 9 155 4 30 tL_areCountedSo) (HL_isUndoneSo : SemL l z0 b D cA yL_isUndoneSo (Cond.code yL_isUndoneSo cL_isUndoneSo 9 (some .boolean)) 8 129 5 0 tL_isUndoneSo) (hK21 : Snd p l e rmL s m #[Value.ref b] below meth c 7 z0 b (I2 z0 b D cA 58 s) (c2 58 2352) Q 21 K21) (hK135 : Snd p l e rmL s m #[Value.ref b] below meth c 7 z0 b (I2 z0 b D cA 58 s) (c2 58 2352) Q 135 K135) (hK426 : Snd p l e rmL s m #[Value.ref b] below meth c 7 z0 b (I2 z0 b D cA 58 s) (c2 58 2352) Q 426 K426) : Snd p l e rmL s m #[Value.ref b] below meth c 7 z0 b (I2 z0 b D cA 58 s) (c2 58 2352) Q 247 (bL_law_247 K21 K135 K426) := by
  obtain ⟨hx, hb, hml, hown, hts, -⟩ := id C
  unfold bL_law_247
  refine k_iconst hx hb dL_law_247 (by decide) ?_
  exact sL_law_248 hlt C hX hLn hbl hbz HL_low HL_type HL_does HL_act HL_areAlike HL_areShownSo HL_areRulesSo HL_areCountedSo HL_isUndoneSo hK21 hK135 hK426
set_option maxRecDepth 20000 in
theorem sL_law_243 {l : Launch} {z0 b Ln : Nat} {xs : Nat → Int32} {D : va_G} {cA : Nat → ClassId} {p : Program} {e : Env} {s : State} {m : MethodId} {below : List Frame} {meth : Method} {c : Code} {Q : State → Prop} {K21 K135 K426 : ZK QQ} (hlt : l.stackTraces = false) (C : zCx p l rmL s m #[Value.ref b] meth c cL_law 7 RL z0 D cA 0) (hX : va_X b Ln xs s s.heap) (hLn : Ln < 2 ^ 31) (hbl : b < s.heap.size) (hbz : ¬ z0 ≤ b) (HL_low : SemL l z0 b D cA yL_low (Cond.code yL_low cL_low 2 (some .int)) 0 0 2 0 tL_low) (HL_type : SemL l z0 b D cA yL_type (Cond.codeWith yL_type cL_type 3 (some .int) [(0, 5, 6, 41), (0, 5, 10, 43)]) 7 103 2 1 tL_type) (HL_does : SemL l z0 b D cA yL_does (Cond.codeWith yL_does cL_does 6 (some .int) [(0, 129, 130, 38), (0, 129, 135, 41), (0, 129, 140, 43)]) 8 158 5 1 tL_does) (HL_act : SemL l z0 b D cA yL_act (Cond.code yL_act cL_act 8 (some .int)) 9 183 2 3 tL_act) (HL_areAlike : SemL l z0 b D cA yL_areAlike (Cond.code yL_areAlike cL_areAlike 4 (some .boolean)) 9 146 2 80 tL_areAlike) (HL_areShownSo : SemL l z0 b D cA yL_areShownSo (Cond.code yL_areShownSo cL_areShownSo 11 (some .boolean)) 8 125 2 0 tL_areShownSo) (HL_areRulesSo : SemL l z0 b D cA yL_areRulesSo (Cond.code yL_areRulesSo cL_areRulesSo 6 (some .boolean)) 9 158 1 90 tL_areRulesSo) (HL_areCountedSo : SemL l z0 b D cA yL_areCountedSo (Cond.code yL_areCountedSo cL_areCountedSo 11 (some .boolean)) 9 155 4 30 tL_areCountedSo) (HL_isUndoneSo : SemL l z0 b D cA yL_isUndoneSo (Cond.code yL_isUndoneSo cL_isUndoneSo 9 (some .boolean)) 8 129 5 0 tL_isUndoneSo) (hK21 : Snd p l e rmL s m #[Value.ref b] below meth c 7 z0 b (I2 z0 b D cA 58 s) (c2 58 2352) Q 21 K21) (hK135 : Snd p l e rmL s m #[Value.ref b] below meth c 7 z0 b (I2 z0 b D cA 58 s) (c2 58 2352) Q 135 K135) (hK426 : Snd p l e rmL s m #[Value.ref b] below meth c 7 z0 b (I2 z0 b D cA 58 s) (c2 58 2352) Q 426 K426) : Snd p l e rmL s m #[Value.ref b] below meth c 7 z0 b (I2 z0 b D cA 58 s) (c2 58 2352) Q 243 (bL_law_243 K21 K135 K426) := by
  obtain ⟨hx, hb, hml, hown, hts, -⟩ := id C
  unfold bL_law_243
  refine k_iconst hx hb dL_law_243 (by decide) ?_
  refine k_goto (tgt := 248) hx hb dL_law_244 (by decide) ?_
  exact sL_law_248 hlt C hX hLn hbl hbz HL_low HL_type HL_does HL_act HL_areAlike HL_areShownSo HL_areRulesSo HL_areCountedSo HL_isUndoneSo hK21 hK135 hK426
set_option maxRecDepth 20000 in
theorem sL_law_217 {l : Launch} {z0 b Ln : Nat} {xs : Nat → Int32} {D : va_G} {cA : Nat → ClassId} {p : Program} {e : Env} {s : State} {m : MethodId} {below : List Frame} {meth : Method} {c : Code} {Q : State → Prop} {K21 K135 K426 : ZK QQ} (hlt : l.stackTraces = false) (C : zCx p l rmL s m #[Value.ref b] meth c cL_law 7 RL z0 D cA 0) (hX : va_X b Ln xs s s.heap) (hLn : Ln < 2 ^ 31) (hbl : b < s.heap.size) (hbz : ¬ z0 ≤ b) (HL_low : SemL l z0 b D cA yL_low (Cond.code yL_low cL_low 2 (some .int)) 0 0 2 0 tL_low) (HL_type : SemL l z0 b D cA yL_type (Cond.codeWith yL_type cL_type 3 (some .int) [(0, 5, 6, 41), (0, 5, 10, 43)]) 7 103 2 1 tL_type) (HL_does : SemL l z0 b D cA yL_does (Cond.codeWith yL_does cL_does 6 (some .int) [(0, 129, 130, 38), (0, 129, 135, 41), (0, 129, 140, 43)]) 8 158 5 1 tL_does) (HL_act : SemL l z0 b D cA yL_act (Cond.code yL_act cL_act 8 (some .int)) 9 183 2 3 tL_act) (HL_areAlike : SemL l z0 b D cA yL_areAlike (Cond.code yL_areAlike cL_areAlike 4 (some .boolean)) 9 146 2 80 tL_areAlike) (HL_areShownSo : SemL l z0 b D cA yL_areShownSo (Cond.code yL_areShownSo cL_areShownSo 11 (some .boolean)) 8 125 2 0 tL_areShownSo) (HL_areRulesSo : SemL l z0 b D cA yL_areRulesSo (Cond.code yL_areRulesSo cL_areRulesSo 6 (some .boolean)) 9 158 1 90 tL_areRulesSo) (HL_areCountedSo : SemL l z0 b D cA yL_areCountedSo (Cond.code yL_areCountedSo cL_areCountedSo 11 (some .boolean)) 9 155 4 30 tL_areCountedSo) (HL_isUndoneSo : SemL l z0 b D cA yL_isUndoneSo (Cond.code yL_isUndoneSo cL_isUndoneSo 9 (some .boolean)) 8 129 5 0 tL_isUndoneSo) (hK21 : Snd p l e rmL s m #[Value.ref b] below meth c 7 z0 b (I2 z0 b D cA 58 s) (c2 58 2352) Q 21 K21) (hK135 : Snd p l e rmL s m #[Value.ref b] below meth c 7 z0 b (I2 z0 b D cA 58 s) (c2 58 2352) Q 135 K135) (hK426 : Snd p l e rmL s m #[Value.ref b] below meth c 7 z0 b (I2 z0 b D cA 58 s) (c2 58 2352) Q 426 K426) : Snd p l e rmL s m #[Value.ref b] below meth c 7 z0 b (I2 z0 b D cA 58 s) (c2 58 2352) Q 217 (bL_law_217 K21 K135 K426) := by
  obtain ⟨hx, hb, hml, hown, hts, -⟩ := id C
  unfold bL_law_217
  refine k_iload hx hb dL_law_217 ?_
  refine k_iconst hx hb dL_law_219 (by decide) ?_
  refine k_irem hx hb dL_law_220 ?_
  refine k_iconst hx hb dL_law_221 (by decide) ?_
  refine k_icmp_ne (tgt := 243) hx hb dL_law_222 (by decide) ?_ ?_
  · exact sL_law_243 hlt C hX hLn hbl hbz HL_low HL_type HL_does HL_act HL_areAlike HL_areShownSo HL_areRulesSo HL_areCountedSo HL_isUndoneSo hK21 hK135 hK426
  · refine k_aload_n hx hb dL_law_225 rfl ?_
    refine k_iload hx hb dL_law_226 ?_
    refine k_iconst hx hb dL_law_228 (by decide) ?_
    refine k_ishr hx hb dL_law_229 ?_
    refine k_aload_n hx hb dL_law_230 rfl ?_
    refine k_rd0 C (i := false) (MB := 20000) (g := (fun μ => gThings μ)) (wp := w11) (fun z0 N => mX5_things hlt) (fun σ μ h => sim_things h) w11_n (fun μ => ro_things) rfl zlL_73 zmX5_things zvX5_things ziX5 zcX5_things (by decide +kernel) ⟨Nat.le_of_ble_eq_true rfl, Nat.le_of_ble_eq_true rfl⟩ ⟨Nat.le_of_ble_eq_true rfl, Nat.le_of_ble_eq_true rfl⟩ dL_law_231 ?_
    refine k_cL C HL_low zlL_57 zsL_low ziL zwL_low (by decide +kernel) ⟨Nat.le_of_ble_eq_true rfl, Nat.le_of_ble_eq_true rfl⟩ ⟨Nat.le_of_ble_eq_true rfl, Nat.le_of_ble_eq_true rfl⟩ dL_law_234 ?_
    refine k_cL C HL_areShownSo zlL_135 zsL_areShownSo ziL zwL_areShownSo (by decide +kernel) ⟨Nat.le_of_ble_eq_true rfl, Nat.le_of_ble_eq_true rfl⟩ ⟨Nat.le_of_ble_eq_true rfl, Nat.le_of_ble_eq_true rfl⟩ dL_law_237 ?_
    refine k_if_eq (tgt := 247) hx hb dL_law_240 (by decide) ?_ ?_
    · exact sL_law_247 hlt C hX hLn hbl hbz HL_low HL_type HL_does HL_act HL_areAlike HL_areShownSo HL_areRulesSo HL_areCountedSo HL_isUndoneSo hK21 hK135 hK426
    · exact sL_law_243 hlt C hX hLn hbl hbz HL_low HL_type HL_does HL_act HL_areAlike HL_areShownSo HL_areRulesSo HL_areCountedSo HL_isUndoneSo hK21 hK135 hK426
set_option maxRecDepth 20000 in
theorem sL_law_200 {l : Launch} {z0 b Ln : Nat} {xs : Nat → Int32} {D : va_G} {cA : Nat → ClassId} {p : Program} {e : Env} {s : State} {m : MethodId} {below : List Frame} {meth : Method} {c : Code} {Q : State → Prop} {K21 K135 K426 : ZK QQ} (hlt : l.stackTraces = false) (C : zCx p l rmL s m #[Value.ref b] meth c cL_law 7 RL z0 D cA 0) (hX : va_X b Ln xs s s.heap) (hLn : Ln < 2 ^ 31) (hbl : b < s.heap.size) (hbz : ¬ z0 ≤ b) (HL_low : SemL l z0 b D cA yL_low (Cond.code yL_low cL_low 2 (some .int)) 0 0 2 0 tL_low) (HL_type : SemL l z0 b D cA yL_type (Cond.codeWith yL_type cL_type 3 (some .int) [(0, 5, 6, 41), (0, 5, 10, 43)]) 7 103 2 1 tL_type) (HL_does : SemL l z0 b D cA yL_does (Cond.codeWith yL_does cL_does 6 (some .int) [(0, 129, 130, 38), (0, 129, 135, 41), (0, 129, 140, 43)]) 8 158 5 1 tL_does) (HL_act : SemL l z0 b D cA yL_act (Cond.code yL_act cL_act 8 (some .int)) 9 183 2 3 tL_act) (HL_areAlike : SemL l z0 b D cA yL_areAlike (Cond.code yL_areAlike cL_areAlike 4 (some .boolean)) 9 146 2 80 tL_areAlike) (HL_areShownSo : SemL l z0 b D cA yL_areShownSo (Cond.code yL_areShownSo cL_areShownSo 11 (some .boolean)) 8 125 2 0 tL_areShownSo) (HL_areRulesSo : SemL l z0 b D cA yL_areRulesSo (Cond.code yL_areRulesSo cL_areRulesSo 6 (some .boolean)) 9 158 1 90 tL_areRulesSo) (HL_areCountedSo : SemL l z0 b D cA yL_areCountedSo (Cond.code yL_areCountedSo cL_areCountedSo 11 (some .boolean)) 9 155 4 30 tL_areCountedSo) (HL_isUndoneSo : SemL l z0 b D cA yL_isUndoneSo (Cond.code yL_isUndoneSo cL_isUndoneSo 9 (some .boolean)) 8 129 5 0 tL_isUndoneSo) (hK21 : Snd p l e rmL s m #[Value.ref b] below meth c 7 z0 b (I2 z0 b D cA 58 s) (c2 58 2352) Q 21 K21) (hK135 : Snd p l e rmL s m #[Value.ref b] below meth c 7 z0 b (I2 z0 b D cA 58 s) (c2 58 2352) Q 135 K135) (hK426 : Snd p l e rmL s m #[Value.ref b] below meth c 7 z0 b (I2 z0 b D cA 58 s) (c2 58 2352) Q 426 K426) : Snd p l e rmL s m #[Value.ref b] below meth c 7 z0 b (I2 z0 b D cA 58 s) (c2 58 2352) Q 200 (bL_law_200 K21 K135 K426) := by
  obtain ⟨hx, hb, hml, hown, hts, -⟩ := id C
  unfold bL_law_200
  refine k_iload hx hb dL_law_200 ?_
  refine k_bipush hx hb dL_law_202 (by decide) ?_
  refine k_irem hx hb dL_law_204 ?_
  refine k_iconst hx hb dL_law_205 (by decide) ?_
  refine k_icmp_ne (tgt := 217) hx hb dL_law_206 (by decide) ?_ ?_
  · exact sL_law_217 hlt C hX hLn hbl hbz HL_low HL_type HL_does HL_act HL_areAlike HL_areShownSo HL_areRulesSo HL_areCountedSo HL_isUndoneSo hK21 hK135 hK426
  · refine k_aload_n hx hb dL_law_209 rfl ?_
    refine k_aload_n hx hb dL_law_210 rfl ?_
    refine k_cL C HL_areAlike zlL_131 zsL_areAlike ziL zwL_areAlike (by decide +kernel) ⟨Nat.le_of_ble_eq_true rfl, Nat.le_of_ble_eq_true rfl⟩ ⟨Nat.le_of_ble_eq_true rfl, Nat.le_of_ble_eq_true rfl⟩ dL_law_211 ?_
    refine k_if_eq (tgt := 247) hx hb dL_law_214 (by decide) ?_ ?_
    · exact sL_law_247 hlt C hX hLn hbl hbz HL_low HL_type HL_does HL_act HL_areAlike HL_areShownSo HL_areRulesSo HL_areCountedSo HL_isUndoneSo hK21 hK135 hK426
    · exact sL_law_217 hlt C hX hLn hbl hbz HL_low HL_type HL_does HL_act HL_areAlike HL_areShownSo HL_areRulesSo HL_areCountedSo HL_isUndoneSo hK21 hK135 hK426
set_option maxRecDepth 20000 in
theorem sL_law_135 {l : Launch} {z0 b Ln : Nat} {xs : Nat → Int32} {D : va_G} {cA : Nat → ClassId} {p : Program} {e : Env} {s : State} {m : MethodId} {below : List Frame} {meth : Method} {c : Code} {Q : State → Prop} {K21 K135 K426 : ZK QQ} (hlt : l.stackTraces = false) (C : zCx p l rmL s m #[Value.ref b] meth c cL_law 7 RL z0 D cA 0) (hX : va_X b Ln xs s s.heap) (hLn : Ln < 2 ^ 31) (hbl : b < s.heap.size) (hbz : ¬ z0 ≤ b) (HL_low : SemL l z0 b D cA yL_low (Cond.code yL_low cL_low 2 (some .int)) 0 0 2 0 tL_low) (HL_type : SemL l z0 b D cA yL_type (Cond.codeWith yL_type cL_type 3 (some .int) [(0, 5, 6, 41), (0, 5, 10, 43)]) 7 103 2 1 tL_type) (HL_does : SemL l z0 b D cA yL_does (Cond.codeWith yL_does cL_does 6 (some .int) [(0, 129, 130, 38), (0, 129, 135, 41), (0, 129, 140, 43)]) 8 158 5 1 tL_does) (HL_act : SemL l z0 b D cA yL_act (Cond.code yL_act cL_act 8 (some .int)) 9 183 2 3 tL_act) (HL_areAlike : SemL l z0 b D cA yL_areAlike (Cond.code yL_areAlike cL_areAlike 4 (some .boolean)) 9 146 2 80 tL_areAlike) (HL_areShownSo : SemL l z0 b D cA yL_areShownSo (Cond.code yL_areShownSo cL_areShownSo 11 (some .boolean)) 8 125 2 0 tL_areShownSo) (HL_areRulesSo : SemL l z0 b D cA yL_areRulesSo (Cond.code yL_areRulesSo cL_areRulesSo 6 (some .boolean)) 9 158 1 90 tL_areRulesSo) (HL_areCountedSo : SemL l z0 b D cA yL_areCountedSo (Cond.code yL_areCountedSo cL_areCountedSo 11 (some .boolean)) 9 155 4 30 tL_areCountedSo) (HL_isUndoneSo : SemL l z0 b D cA yL_isUndoneSo (Cond.code yL_isUndoneSo cL_isUndoneSo 9 (some .boolean)) 8 129 5 0 tL_isUndoneSo) (hK21 : Snd p l e rmL s m #[Value.ref b] below meth c 7 z0 b (I2 z0 b D cA 58 s) (c2 58 2352) Q 21 K21) (hK135 : Snd p l e rmL s m #[Value.ref b] below meth c 7 z0 b (I2 z0 b D cA 58 s) (c2 58 2352) Q 135 K135) (hK426 : Snd p l e rmL s m #[Value.ref b] below meth c 7 z0 b (I2 z0 b D cA 58 s) (c2 58 2352) Q 426 K426) : Snd p l e rmL s m #[Value.ref b] below meth c 7 z0 b (I2 z0 b D cA 58 s) (c2 58 2352) Q 135 (bL_law_135 K21 K135 K426) := by
  obtain ⟨hx, hb, hml, hown, hts, -⟩ := id C
  unfold bL_law_135
  refine k_iload hx hb dL_law_135 ?_
  refine k_bipush hx hb dL_law_137 (by decide) ?_
  refine k_icmp_ge (tgt := 390) hx hb dL_law_139 (by decide) ?_ ?_
  · exact sL_law_390 hlt C hX hLn hbl hbz HL_low HL_type HL_does HL_act HL_areAlike HL_areShownSo HL_areRulesSo HL_areCountedSo HL_isUndoneSo hK21 hK135 hK426
  · refine k_iload_n hx hb dL_law_142 rfl ?_
    refine k_if_eq (tgt := 390) hx hb dL_law_143 (by decide) ?_ ?_
    · exact sL_law_390 hlt C hX hLn hbl hbz HL_low HL_type HL_does HL_act HL_areAlike HL_areShownSo HL_areRulesSo HL_areCountedSo HL_isUndoneSo hK21 hK135 hK426
    · refine k_alS hx hb dL_law_146 rfl ?_
      refine k_iload hx hb dL_law_147 ?_
      refine k_bipush hx hb dL_law_149 (by decide) ?_
      refine k_irem hx hb dL_law_151 ?_
      refine k_cell C hX hLn hbl hbz zlL_124 zsL_cell ziL zwL_cell (by decide +kernel) ⟨Nat.le_of_ble_eq_true rfl, Nat.le_of_ble_eq_true rfl⟩ ⟨Nat.le_of_ble_eq_true rfl, Nat.le_of_ble_eq_true rfl⟩ dL_law_152 ?_
      refine k_sipush hx hb dL_law_155 (by decide) ?_
      refine k_iload hx hb dL_law_158 ?_
      refine k_bipush hx hb dL_law_160 (by decide) ?_
      refine k_idiv hx hb dL_law_162 ?_
      refine k_imul hx hb dL_law_163 ?_
      refine k_iadd hx hb dL_law_164 ?_
      refine k_istore hx hb dL_law_165 ?_
      refine k_aload_n hx hb dL_law_167 rfl ?_
      refine k_iload hx hb dL_law_168 ?_
      refine k_cL C HL_act zlL_128 zsL_act ziL zwL_act (by decide +kernel) ⟨Nat.le_of_ble_eq_true rfl, Nat.le_of_ble_eq_true rfl⟩ ⟨Nat.le_of_ble_eq_true rfl, Nat.le_of_ble_eq_true rfl⟩ dL_law_170 ?_
      refine k_istore hx hb dL_law_173 ?_
      refine k_iload hx hb dL_law_175 ?_
      refine k_ldc hx hb hown (hts _ zkL_76) dL_law_177 ?_
      refine k_icmp_eq (tgt := 247) hx hb dL_law_179 (by decide) ?_ ?_
      · exact sL_law_247 hlt C hX hLn hbl hbz HL_low HL_type HL_does HL_act HL_areAlike HL_areShownSo HL_areRulesSo HL_areCountedSo HL_isUndoneSo hK21 hK135 hK426
      · refine k_iload hx hb dL_law_182 ?_
        refine k_ldc hx hb hown (hts _ zkL_40) dL_law_184 ?_
        refine k_icmp_eq (tgt := 200) hx hb dL_law_186 (by decide) ?_ ?_
        · exact sL_law_200 hlt C hX hLn hbl hbz HL_low HL_type HL_does HL_act HL_areAlike HL_areShownSo HL_areRulesSo HL_areCountedSo HL_isUndoneSo hK21 hK135 hK426
        · refine k_aload_n hx hb dL_law_189 rfl ?_
          refine k_iload hx hb dL_law_190 ?_
          refine k_cL C HL_act zlL_128 zsL_act ziL zwL_act (by decide +kernel) ⟨Nat.le_of_ble_eq_true rfl, Nat.le_of_ble_eq_true rfl⟩ ⟨Nat.le_of_ble_eq_true rfl, Nat.le_of_ble_eq_true rfl⟩ dL_law_192 ?_
          refine k_iload hx hb dL_law_195 ?_
          refine k_icmp_ne (tgt := 247) hx hb dL_law_197 (by decide) ?_ ?_
          · exact sL_law_247 hlt C hX hLn hbl hbz HL_low HL_type HL_does HL_act HL_areAlike HL_areShownSo HL_areRulesSo HL_areCountedSo HL_isUndoneSo hK21 hK135 hK426
          · exact sL_law_200 hlt C hX hLn hbl hbz HL_low HL_type HL_does HL_act HL_areAlike HL_areShownSo HL_areRulesSo HL_areCountedSo HL_isUndoneSo hK21 hK135 hK426
set_option maxRecDepth 20000 in
theorem sL_law_125 {l : Launch} {z0 b Ln : Nat} {xs : Nat → Int32} {D : va_G} {cA : Nat → ClassId} {p : Program} {e : Env} {s : State} {m : MethodId} {below : List Frame} {meth : Method} {c : Code} {Q : State → Prop} {K21 K135 K426 : ZK QQ} (hlt : l.stackTraces = false) (C : zCx p l rmL s m #[Value.ref b] meth c cL_law 7 RL z0 D cA 0) (hX : va_X b Ln xs s s.heap) (hLn : Ln < 2 ^ 31) (hbl : b < s.heap.size) (hbz : ¬ z0 ≤ b) (HL_low : SemL l z0 b D cA yL_low (Cond.code yL_low cL_low 2 (some .int)) 0 0 2 0 tL_low) (HL_type : SemL l z0 b D cA yL_type (Cond.codeWith yL_type cL_type 3 (some .int) [(0, 5, 6, 41), (0, 5, 10, 43)]) 7 103 2 1 tL_type) (HL_does : SemL l z0 b D cA yL_does (Cond.codeWith yL_does cL_does 6 (some .int) [(0, 129, 130, 38), (0, 129, 135, 41), (0, 129, 140, 43)]) 8 158 5 1 tL_does) (HL_act : SemL l z0 b D cA yL_act (Cond.code yL_act cL_act 8 (some .int)) 9 183 2 3 tL_act) (HL_areAlike : SemL l z0 b D cA yL_areAlike (Cond.code yL_areAlike cL_areAlike 4 (some .boolean)) 9 146 2 80 tL_areAlike) (HL_areShownSo : SemL l z0 b D cA yL_areShownSo (Cond.code yL_areShownSo cL_areShownSo 11 (some .boolean)) 8 125 2 0 tL_areShownSo) (HL_areRulesSo : SemL l z0 b D cA yL_areRulesSo (Cond.code yL_areRulesSo cL_areRulesSo 6 (some .boolean)) 9 158 1 90 tL_areRulesSo) (HL_areCountedSo : SemL l z0 b D cA yL_areCountedSo (Cond.code yL_areCountedSo cL_areCountedSo 11 (some .boolean)) 9 155 4 30 tL_areCountedSo) (HL_isUndoneSo : SemL l z0 b D cA yL_isUndoneSo (Cond.code yL_isUndoneSo cL_isUndoneSo 9 (some .boolean)) 8 129 5 0 tL_isUndoneSo) (hK21 : Snd p l e rmL s m #[Value.ref b] below meth c 7 z0 b (I2 z0 b D cA 58 s) (c2 58 2352) Q 21 K21) (hK135 : Snd p l e rmL s m #[Value.ref b] below meth c 7 z0 b (I2 z0 b D cA 58 s) (c2 58 2352) Q 135 K135) (hK426 : Snd p l e rmL s m #[Value.ref b] below meth c 7 z0 b (I2 z0 b D cA 58 s) (c2 58 2352) Q 426 K426) : Snd p l e rmL s m #[Value.ref b] below meth c 7 z0 b (I2 z0 b D cA 58 s) (c2 58 2352) Q 125 (bL_law_125 K21 K135 K426) := by
  obtain ⟨hx, hb, hml, hown, hts, -⟩ := id C
  unfold bL_law_125
  refine k_istore_n hx hb dL_law_125 rfl ?_
  refine k_iinc hx hb dL_law_126 (by decide) ?_
  refine k_goto (tgt := 21) hx hb dL_law_129 (by decide) ?_
  exact hK21
set_option maxRecDepth 20000 in
theorem sL_law_124 {l : Launch} {z0 b Ln : Nat} {xs : Nat → Int32} {D : va_G} {cA : Nat → ClassId} {p : Program} {e : Env} {s : State} {m : MethodId} {below : List Frame} {meth : Method} {c : Code} {Q : State → Prop} {K21 K135 K426 : ZK QQ} (hlt : l.stackTraces = false) (C : zCx p l rmL s m #[Value.ref b] meth c cL_law 7 RL z0 D cA 0) (hX : va_X b Ln xs s s.heap) (hLn : Ln < 2 ^ 31) (hbl : b < s.heap.size) (hbz : ¬ z0 ≤ b) (HL_low : SemL l z0 b D cA yL_low (Cond.code yL_low cL_low 2 (some .int)) 0 0 2 0 tL_low) (HL_type : SemL l z0 b D cA yL_type (Cond.codeWith yL_type cL_type 3 (some .int) [(0, 5, 6, 41), (0, 5, 10, 43)]) 7 103 2 1 tL_type) (HL_does : SemL l z0 b D cA yL_does (Cond.codeWith yL_does cL_does 6 (some .int) [(0, 129, 130, 38), (0, 129, 135, 41), (0, 129, 140, 43)]) 8 158 5 1 tL_does) (HL_act : SemL l z0 b D cA yL_act (Cond.code yL_act cL_act 8 (some .int)) 9 183 2 3 tL_act) (HL_areAlike : SemL l z0 b D cA yL_areAlike (Cond.code yL_areAlike cL_areAlike 4 (some .boolean)) 9 146 2 80 tL_areAlike) (HL_areShownSo : SemL l z0 b D cA yL_areShownSo (Cond.code yL_areShownSo cL_areShownSo 11 (some .boolean)) 8 125 2 0 tL_areShownSo) (HL_areRulesSo : SemL l z0 b D cA yL_areRulesSo (Cond.code yL_areRulesSo cL_areRulesSo 6 (some .boolean)) 9 158 1 90 tL_areRulesSo) (HL_areCountedSo : SemL l z0 b D cA yL_areCountedSo (Cond.code yL_areCountedSo cL_areCountedSo 11 (some .boolean)) 9 155 4 30 tL_areCountedSo) (HL_isUndoneSo : SemL l z0 b D cA yL_isUndoneSo (Cond.code yL_isUndoneSo cL_isUndoneSo 9 (some .boolean)) 8 129 5 0 tL_isUndoneSo) (hK21 : Snd p l e rmL s m #[Value.ref b] below meth c 7 z0 b (I2 z0 b D cA 58 s) (c2 58 2352) Q 21 K21) (hK135 : Snd p l e rmL s m #[Value.ref b] below meth c 7 z0 b (I2 z0 b D cA 58 s) (c2 58 2352) Q 135 K135) (hK426 : Snd p l e rmL s m #[Value.ref b] below meth c 7 z0 b (I2 z0 b D cA 58 s) (c2 58 2352) Q 426 K426) : Snd p l e rmL s m #[Value.ref b] below meth c 7 z0 b (I2 z0 b D cA 58 s) (c2 58 2352) Q 124 (bL_law_124 K21 K135 K426) := by
  obtain ⟨hx, hb, hml, hown, hts, -⟩ := id C
  unfold bL_law_124
  refine k_iconst hx hb dL_law_124 (by decide) ?_
  exact sL_law_125 hlt C hX hLn hbl hbz HL_low HL_type HL_does HL_act HL_areAlike HL_areShownSo HL_areRulesSo HL_areCountedSo HL_isUndoneSo hK21 hK135 hK426
set_option maxRecDepth 20000 in
theorem sL_law_120 {l : Launch} {z0 b Ln : Nat} {xs : Nat → Int32} {D : va_G} {cA : Nat → ClassId} {p : Program} {e : Env} {s : State} {m : MethodId} {below : List Frame} {meth : Method} {c : Code} {Q : State → Prop} {K21 K135 K426 : ZK QQ} (hlt : l.stackTraces = false) (C : zCx p l rmL s m #[Value.ref b] meth c cL_law 7 RL z0 D cA 0) (hX : va_X b Ln xs s s.heap) (hLn : Ln < 2 ^ 31) (hbl : b < s.heap.size) (hbz : ¬ z0 ≤ b) (HL_low : SemL l z0 b D cA yL_low (Cond.code yL_low cL_low 2 (some .int)) 0 0 2 0 tL_low) (HL_type : SemL l z0 b D cA yL_type (Cond.codeWith yL_type cL_type 3 (some .int) [(0, 5, 6, 41), (0, 5, 10, 43)]) 7 103 2 1 tL_type) (HL_does : SemL l z0 b D cA yL_does (Cond.codeWith yL_does cL_does 6 (some .int) [(0, 129, 130, 38), (0, 129, 135, 41), (0, 129, 140, 43)]) 8 158 5 1 tL_does) (HL_act : SemL l z0 b D cA yL_act (Cond.code yL_act cL_act 8 (some .int)) 9 183 2 3 tL_act) (HL_areAlike : SemL l z0 b D cA yL_areAlike (Cond.code yL_areAlike cL_areAlike 4 (some .boolean)) 9 146 2 80 tL_areAlike) (HL_areShownSo : SemL l z0 b D cA yL_areShownSo (Cond.code yL_areShownSo cL_areShownSo 11 (some .boolean)) 8 125 2 0 tL_areShownSo) (HL_areRulesSo : SemL l z0 b D cA yL_areRulesSo (Cond.code yL_areRulesSo cL_areRulesSo 6 (some .boolean)) 9 158 1 90 tL_areRulesSo) (HL_areCountedSo : SemL l z0 b D cA yL_areCountedSo (Cond.code yL_areCountedSo cL_areCountedSo 11 (some .boolean)) 9 155 4 30 tL_areCountedSo) (HL_isUndoneSo : SemL l z0 b D cA yL_isUndoneSo (Cond.code yL_isUndoneSo cL_isUndoneSo 9 (some .boolean)) 8 129 5 0 tL_isUndoneSo) (hK21 : Snd p l e rmL s m #[Value.ref b] below meth c 7 z0 b (I2 z0 b D cA 58 s) (c2 58 2352) Q 21 K21) (hK135 : Snd p l e rmL s m #[Value.ref b] below meth c 7 z0 b (I2 z0 b D cA 58 s) (c2 58 2352) Q 135 K135) (hK426 : Snd p l e rmL s m #[Value.ref b] below meth c 7 z0 b (I2 z0 b D cA 58 s) (c2 58 2352) Q 426 K426) : Snd p l e rmL s m #[Value.ref b] below meth c 7 z0 b (I2 z0 b D cA 58 s) (c2 58 2352) Q 120 (bL_law_120 K21 K135 K426) := by
  obtain ⟨hx, hb, hml, hown, hts, -⟩ := id C
  unfold bL_law_120
  refine k_iconst hx hb dL_law_120 (by decide) ?_
  refine k_goto (tgt := 125) hx hb dL_law_121 (by decide) ?_
  exact sL_law_125 hlt C hX hLn hbl hbz HL_low HL_type HL_does HL_act HL_areAlike HL_areShownSo HL_areRulesSo HL_areCountedSo HL_isUndoneSo hK21 hK135 hK426
set_option maxRecDepth 20000 in
theorem sL_law_21 {l : Launch} {z0 b Ln : Nat} {xs : Nat → Int32} {D : va_G} {cA : Nat → ClassId} {p : Program} {e : Env} {s : State} {m : MethodId} {below : List Frame} {meth : Method} {c : Code} {Q : State → Prop} {K21 K135 K426 : ZK QQ} (hlt : l.stackTraces = false) (C : zCx p l rmL s m #[Value.ref b] meth c cL_law 7 RL z0 D cA 0) (hX : va_X b Ln xs s s.heap) (hLn : Ln < 2 ^ 31) (hbl : b < s.heap.size) (hbz : ¬ z0 ≤ b) (HL_low : SemL l z0 b D cA yL_low (Cond.code yL_low cL_low 2 (some .int)) 0 0 2 0 tL_low) (HL_type : SemL l z0 b D cA yL_type (Cond.codeWith yL_type cL_type 3 (some .int) [(0, 5, 6, 41), (0, 5, 10, 43)]) 7 103 2 1 tL_type) (HL_does : SemL l z0 b D cA yL_does (Cond.codeWith yL_does cL_does 6 (some .int) [(0, 129, 130, 38), (0, 129, 135, 41), (0, 129, 140, 43)]) 8 158 5 1 tL_does) (HL_act : SemL l z0 b D cA yL_act (Cond.code yL_act cL_act 8 (some .int)) 9 183 2 3 tL_act) (HL_areAlike : SemL l z0 b D cA yL_areAlike (Cond.code yL_areAlike cL_areAlike 4 (some .boolean)) 9 146 2 80 tL_areAlike) (HL_areShownSo : SemL l z0 b D cA yL_areShownSo (Cond.code yL_areShownSo cL_areShownSo 11 (some .boolean)) 8 125 2 0 tL_areShownSo) (HL_areRulesSo : SemL l z0 b D cA yL_areRulesSo (Cond.code yL_areRulesSo cL_areRulesSo 6 (some .boolean)) 9 158 1 90 tL_areRulesSo) (HL_areCountedSo : SemL l z0 b D cA yL_areCountedSo (Cond.code yL_areCountedSo cL_areCountedSo 11 (some .boolean)) 9 155 4 30 tL_areCountedSo) (HL_isUndoneSo : SemL l z0 b D cA yL_isUndoneSo (Cond.code yL_isUndoneSo cL_isUndoneSo 9 (some .boolean)) 8 129 5 0 tL_isUndoneSo) (hK21 : Snd p l e rmL s m #[Value.ref b] below meth c 7 z0 b (I2 z0 b D cA 58 s) (c2 58 2352) Q 21 K21) (hK135 : Snd p l e rmL s m #[Value.ref b] below meth c 7 z0 b (I2 z0 b D cA 58 s) (c2 58 2352) Q 135 K135) (hK426 : Snd p l e rmL s m #[Value.ref b] below meth c 7 z0 b (I2 z0 b D cA 58 s) (c2 58 2352) Q 426 K426) : Snd p l e rmL s m #[Value.ref b] below meth c 7 z0 b (I2 z0 b D cA 58 s) (c2 58 2352) Q 21 (bL_law_21 K21 K135 K426) := by
  obtain ⟨hx, hb, hml, hown, hts, -⟩ := id C
  unfold bL_law_21
  refine k_iload hx hb dL_law_21 ?_
  refine k_bipush hx hb dL_law_23 (by decide) ?_
  refine k_icmp_ge (tgt := 132) hx hb dL_law_25 (by decide) ?_ ?_
  · refine k_iconst hx hb dL_law_132 (by decide) ?_
    refine k_istore hx hb dL_law_133 ?_
    exact hK135
  · refine k_iload_n hx hb dL_law_28 rfl ?_
    refine k_if_eq (tgt := 124) hx hb dL_law_29 (by decide) ?_ ?_
    · exact sL_law_124 hlt C hX hLn hbl hbz HL_low HL_type HL_does HL_act HL_areAlike HL_areShownSo HL_areRulesSo HL_areCountedSo HL_isUndoneSo hK21 hK135 hK426
    · refine k_aload_n hx hb dL_law_32 rfl ?_
      refine k_bipush hx hb dL_law_33 (by decide) ?_
      refine k_iload hx hb dL_law_35 ?_
      refine k_iadd hx hb dL_law_37 ?_
      refine k_i2c hx hb dL_law_38 ?_
      refine k_cLW C HL_type zlL_66 zsL_type ziL zwL_type (by decide +kernel) ⟨Nat.le_of_ble_eq_true rfl, Nat.le_of_ble_eq_true rfl⟩ ⟨Nat.le_of_ble_eq_true rfl, Nat.le_of_ble_eq_true rfl⟩ dL_law_39 ?_
      refine k_iconst hx hb dL_law_42 (by decide) ?_
      refine k_icmp_ne (tgt := 124) hx hb dL_law_43 (by decide) ?_ ?_
      · exact sL_law_124 hlt C hX hLn hbl hbz HL_low HL_type HL_does HL_act HL_areAlike HL_areShownSo HL_areRulesSo HL_areCountedSo HL_isUndoneSo hK21 hK135 hK426
      · refine k_aload_n hx hb dL_law_46 rfl ?_
        refine k_bipush hx hb dL_law_47 (by decide) ?_
        refine k_iload hx hb dL_law_49 ?_
        refine k_iadd hx hb dL_law_51 ?_
        refine k_i2c hx hb dL_law_52 ?_
        refine k_cLW C HL_type zlL_66 zsL_type ziL zwL_type (by decide +kernel) ⟨Nat.le_of_ble_eq_true rfl, Nat.le_of_ble_eq_true rfl⟩ ⟨Nat.le_of_ble_eq_true rfl, Nat.le_of_ble_eq_true rfl⟩ dL_law_53 ?_
        refine k_iconst hx hb dL_law_56 (by decide) ?_
        refine k_icmp_ne (tgt := 124) hx hb dL_law_57 (by decide) ?_ ?_
        · exact sL_law_124 hlt C hX hLn hbl hbz HL_low HL_type HL_does HL_act HL_areAlike HL_areShownSo HL_areRulesSo HL_areCountedSo HL_isUndoneSo hK21 hK135 hK426
        · refine k_aload_n hx hb dL_law_60 rfl ?_
          refine k_bipush hx hb dL_law_61 (by decide) ?_
          refine k_iconst hx hb dL_law_63 (by decide) ?_
          refine k_iconst hx hb dL_law_64 (by decide) ?_
          refine k_iconst hx hb dL_law_65 (by decide) ?_
          refine k_cLW C HL_does zlL_69 zsL_does ziL zwL_does (by decide +kernel) ⟨Nat.le_of_ble_eq_true rfl, Nat.le_of_ble_eq_true rfl⟩ ⟨Nat.le_of_ble_eq_true rfl, Nat.le_of_ble_eq_true rfl⟩ dL_law_66 ?_
          refine k_iload hx hb dL_law_69 ?_
          refine k_icmp_ne (tgt := 124) hx hb dL_law_71 (by decide) ?_ ?_
          · exact sL_law_124 hlt C hX hLn hbl hbz HL_low HL_type HL_does HL_act HL_areAlike HL_areShownSo HL_areRulesSo HL_areCountedSo HL_isUndoneSo hK21 hK135 hK426
          · refine k_aload_n hx hb dL_law_74 rfl ?_
            refine k_bipush hx hb dL_law_75 (by decide) ?_
            refine k_iconst hx hb dL_law_77 (by decide) ?_
            refine k_iconst hx hb dL_law_78 (by decide) ?_
            refine k_iconst hx hb dL_law_79 (by decide) ?_
            refine k_cLW C HL_does zlL_69 zsL_does ziL zwL_does (by decide +kernel) ⟨Nat.le_of_ble_eq_true rfl, Nat.le_of_ble_eq_true rfl⟩ ⟨Nat.le_of_ble_eq_true rfl, Nat.le_of_ble_eq_true rfl⟩ dL_law_80 ?_
            refine k_iload hx hb dL_law_83 ?_
            refine k_icmp_ne (tgt := 124) hx hb dL_law_85 (by decide) ?_ ?_
            · exact sL_law_124 hlt C hX hLn hbl hbz HL_low HL_type HL_does HL_act HL_areAlike HL_areShownSo HL_areRulesSo HL_areCountedSo HL_isUndoneSo hK21 hK135 hK426
            · refine k_iload hx hb dL_law_88 ?_
              refine k_iconst hx hb dL_law_90 (by decide) ?_
              refine k_icmp_gt (tgt := 120) hx hb dL_law_91 (by decide) ?_ ?_
              · exact sL_law_120 hlt C hX hLn hbl hbz HL_low HL_type HL_does HL_act HL_areAlike HL_areShownSo HL_areRulesSo HL_areCountedSo HL_isUndoneSo hK21 hK135 hK426
              · refine k_aload_n hx hb dL_law_94 rfl ?_
                refine k_iconst hx hb dL_law_95 (by decide) ?_
                refine k_iconst hx hb dL_law_96 (by decide) ?_
                refine k_iconst hx hb dL_law_97 (by decide) ?_
                refine k_iconst hx hb dL_law_98 (by decide) ?_
                refine k_cLW C HL_does zlL_69 zsL_does ziL zwL_does (by decide +kernel) ⟨Nat.le_of_ble_eq_true rfl, Nat.le_of_ble_eq_true rfl⟩ ⟨Nat.le_of_ble_eq_true rfl, Nat.le_of_ble_eq_true rfl⟩ dL_law_99 ?_
                refine k_iload hx hb dL_law_102 ?_
                refine k_icmp_ne (tgt := 124) hx hb dL_law_104 (by decide) ?_ ?_
                · exact sL_law_124 hlt C hX hLn hbl hbz HL_low HL_type HL_does HL_act HL_areAlike HL_areShownSo HL_areRulesSo HL_areCountedSo HL_isUndoneSo hK21 hK135 hK426
                · refine k_aload_n hx hb dL_law_107 rfl ?_
                  refine k_iconst hx hb dL_law_108 (by decide) ?_
                  refine k_iconst hx hb dL_law_109 (by decide) ?_
                  refine k_iconst hx hb dL_law_110 (by decide) ?_
                  refine k_iconst hx hb dL_law_111 (by decide) ?_
                  refine k_cLW C HL_does zlL_69 zsL_does ziL zwL_does (by decide +kernel) ⟨Nat.le_of_ble_eq_true rfl, Nat.le_of_ble_eq_true rfl⟩ ⟨Nat.le_of_ble_eq_true rfl, Nat.le_of_ble_eq_true rfl⟩ dL_law_112 ?_
                  refine k_iload hx hb dL_law_115 ?_
                  refine k_icmp_ne (tgt := 124) hx hb dL_law_117 (by decide) ?_ ?_
                  · exact sL_law_124 hlt C hX hLn hbl hbz HL_low HL_type HL_does HL_act HL_areAlike HL_areShownSo HL_areRulesSo HL_areCountedSo HL_isUndoneSo hK21 hK135 hK426
                  · exact sL_law_120 hlt C hX hLn hbl hbz HL_low HL_type HL_does HL_act HL_areAlike HL_areShownSo HL_areRulesSo HL_areCountedSo HL_isUndoneSo hK21 hK135 hK426
set_option maxRecDepth 20000 in
theorem sL_law_16 {l : Launch} {z0 b Ln : Nat} {xs : Nat → Int32} {D : va_G} {cA : Nat → ClassId} {p : Program} {e : Env} {s : State} {m : MethodId} {below : List Frame} {meth : Method} {c : Code} {Q : State → Prop} {K21 K135 K426 : ZK QQ} (hlt : l.stackTraces = false) (C : zCx p l rmL s m #[Value.ref b] meth c cL_law 7 RL z0 D cA 0) (hX : va_X b Ln xs s s.heap) (hLn : Ln < 2 ^ 31) (hbl : b < s.heap.size) (hbz : ¬ z0 ≤ b) (HL_low : SemL l z0 b D cA yL_low (Cond.code yL_low cL_low 2 (some .int)) 0 0 2 0 tL_low) (HL_type : SemL l z0 b D cA yL_type (Cond.codeWith yL_type cL_type 3 (some .int) [(0, 5, 6, 41), (0, 5, 10, 43)]) 7 103 2 1 tL_type) (HL_does : SemL l z0 b D cA yL_does (Cond.codeWith yL_does cL_does 6 (some .int) [(0, 129, 130, 38), (0, 129, 135, 41), (0, 129, 140, 43)]) 8 158 5 1 tL_does) (HL_act : SemL l z0 b D cA yL_act (Cond.code yL_act cL_act 8 (some .int)) 9 183 2 3 tL_act) (HL_areAlike : SemL l z0 b D cA yL_areAlike (Cond.code yL_areAlike cL_areAlike 4 (some .boolean)) 9 146 2 80 tL_areAlike) (HL_areShownSo : SemL l z0 b D cA yL_areShownSo (Cond.code yL_areShownSo cL_areShownSo 11 (some .boolean)) 8 125 2 0 tL_areShownSo) (HL_areRulesSo : SemL l z0 b D cA yL_areRulesSo (Cond.code yL_areRulesSo cL_areRulesSo 6 (some .boolean)) 9 158 1 90 tL_areRulesSo) (HL_areCountedSo : SemL l z0 b D cA yL_areCountedSo (Cond.code yL_areCountedSo cL_areCountedSo 11 (some .boolean)) 9 155 4 30 tL_areCountedSo) (HL_isUndoneSo : SemL l z0 b D cA yL_isUndoneSo (Cond.code yL_isUndoneSo cL_isUndoneSo 9 (some .boolean)) 8 129 5 0 tL_isUndoneSo) (hK21 : Snd p l e rmL s m #[Value.ref b] below meth c 7 z0 b (I2 z0 b D cA 58 s) (c2 58 2352) Q 21 K21) (hK135 : Snd p l e rmL s m #[Value.ref b] below meth c 7 z0 b (I2 z0 b D cA 58 s) (c2 58 2352) Q 135 K135) (hK426 : Snd p l e rmL s m #[Value.ref b] below meth c 7 z0 b (I2 z0 b D cA 58 s) (c2 58 2352) Q 426 K426) : Snd p l e rmL s m #[Value.ref b] below meth c 7 z0 b (I2 z0 b D cA 58 s) (c2 58 2352) Q 16 (bL_law_16 K21 K135 K426) := by
  obtain ⟨hx, hb, hml, hown, hts, -⟩ := id C
  unfold bL_law_16
  refine k_iconst hx hb dL_law_16 (by decide) ?_
  refine k_istore_n hx hb dL_law_17 rfl ?_
  refine k_iconst hx hb dL_law_18 (by decide) ?_
  refine k_istore hx hb dL_law_19 ?_
  exact hK21
