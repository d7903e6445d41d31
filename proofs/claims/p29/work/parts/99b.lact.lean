def bL_act_426 (i : Bool) (Kn : QK) : ZK QQ := (o_cL 2 0 3 tL_low (o_ic (0) (o_cL 5 1 3 tL_does (o_ret2 3 .int Kn))))
def bL_act_408 (i : Bool) (Kn : QK) : ZK QQ := (o_cL 2 0 3 tL_low (o_iload 1 (o_ic (9) (o_bin (fun x y => x >>> (y &&& 31)) (o_iload 2 (o_if1 (fun x => x = 0) (o_ic (10) (bL_act_426 i Kn)) (o_ic (12) (bL_act_426 i Kn))))))))
def bL_act_394 (i : Bool) (Kn : QK) : ZK QQ := (o_iload 1 (o_ic (5) (o_bin (fun x y => x >>> (y &&& 31)) (o_iload 2 (o_if1 (fun x => x = 0) (o_ic (24) (bL_act_408 i Kn)) (o_ic (44) (bL_act_408 i Kn)))))))
def bL_act_375 (i : Bool) (Kn : QK) : ZK QQ := (o_ret2 3 .int Kn)
def bL_act_373 (i : Bool) (Kn : QK) : ZK QQ := (o_ic (-77777) (bL_act_375 i Kn))
def bL_act_368 (i : Bool) (Kn : QK) : ZK QQ := (o_iload 7 (bL_act_375 i Kn))
def bL_act_322 (i : Bool) (Kn : QK) : ZK QQ := (o_istore 6 (o_aload 0 (o_ic (5) (o_iload 6 (o_iload 4 (o_iload 5 (o_cL 5 1 3 tL_does (o_istore 7 (o_iload 7 (o_if1 (fun x => x < 0) (bL_act_368 i Kn) (o_aload 0 (o_ic (6) (o_iload 7 (o_ic (0) (o_ic (0) (o_cL 5 1 3 tL_does (o_if1 (fun x => ¬ x = 0) (bL_act_373 i Kn) (o_aload 0 (o_ic (6) (o_iload 7 (o_ic (1) (o_ic (0) (o_cL 5 1 3 tL_does (o_if1 (fun x => ¬ x = 0) (bL_act_373 i Kn) (bL_act_368 i Kn)))))))))))))))))))))))))
def bL_act_266 (i : Bool) (Kn : QK) : ZK QQ := (o_ret2 3 .int Kn)
def bL_act_248 (i : Bool) (Kn : QK) : ZK QQ := (o_iload 4 (o_iload 5 (o_cL 5 1 3 tL_does (bL_act_266 i Kn))))
def bL_act_202 (i : Bool) (Kn : QK) : ZK QQ := (o_iload 4 (o_ic (0) (o_cL 5 1 3 tL_does (o_ret2 3 .int Kn))))
def bL_act_175 (i : Bool) (Kn : QK) : ZK QQ := (o_iload 2 (o_if1 (fun x => x = 0) (o_iload 1 (o_ic (4) (o_bin (fun x y => x >>> (y &&& 31)) (o_aload 0 (o_rd0 i 3 (fun μ => gThings μ) (o_cL 2 0 3 tL_low (bL_act_202 i Kn))))))) (o_iload 1 (o_ic (4) (o_bin (fun x y => x >>> (y &&& 31)) (o_ic (24) (o_cL 2 0 3 tL_low (o_ic (1) (o_bin (fun x y => x - y) (bL_act_202 i Kn))))))))))
def bL_act_156 (i : Bool) (Kn : QK) : ZK QQ := (o_ret2 3 .int Kn)
def bL_act_124 (i : Bool) (Kn : QK) : ZK QQ := (o_i2c (o_cL 2 1 3 tL_type (bL_act_156 i Kn)))
def bL_act_85 (i : Bool) (Kn : QK) : ZK QQ := (o_istore 5 (o_iload 3 (o_ic (4) (o_if2 (fun x y => y ≤ x) (o_iload 3 (o_ic (14) (o_if2 (fun x y => y ≤ x) (o_iload 3 (o_ic (18) (o_if2 (fun x y => y ≤ x) (o_iload 3 (o_ic (28) (o_if2 (fun x y => y ≤ x) (o_aload 0 (o_iload 1 (o_ic (12) (o_bin (fun x y => x >>> (y &&& 31)) (o_ic (7) (o_bin (fun x y => x &&& y) (o_if1 (fun x => x ≤ 0) (o_ic (7) (bL_act_394 i Kn)) (o_ic (6) (bL_act_394 i Kn))))))))) (o_iload 2 (o_if1 (fun x => x = 0) (o_iload 3 (o_ic (21) (o_if2 (fun x y => y ≤ x) (o_iload 3 (o_ic (25) (o_if2 (fun x y => y ≤ x) (o_iload 3 (o_ic (26) (o_if2 (fun x y => y ≤ x) (o_ic (3) (bL_act_322 i Kn)) (o_ic (2) (bL_act_322 i Kn))))) (o_ic (1) (bL_act_322 i Kn))))) (o_ic (0) (bL_act_322 i Kn))))) (o_iload 1 (o_ic (13) (o_bin (fun x y => x >>> (y &&& 31)) (o_ic (6) (o_cL 2 0 3 tL_low (o_ic (1) (o_bin (fun x y => x - y) (bL_act_322 i Kn))))))))))))) (o_iload 3 (o_ic (17) (o_if2 (fun x y => y ≤ x) (o_aload 0 (o_ic (4) (o_ic (0) (o_ic (0) (o_ic (0) (o_cL 5 1 3 tL_does (bL_act_266 i Kn))))))) (o_aload 0 (o_ic (3) (o_iload 2 (o_if1 (fun x => x = 0) (o_iload 1 (o_ic (13) (o_bin (fun x y => x >>> (y &&& 31)) (o_ic (3) (o_cL 2 0 3 tL_low (bL_act_248 i Kn)))))) (o_iload 1 (o_ic (13) (o_bin (fun x y => x >>> (y &&& 31)) (o_ic (5) (o_cL 2 0 3 tL_low (o_ic (1) (o_bin (fun x y => x - y) (bL_act_248 i Kn)))))))))))))))))) (o_aload 0 (o_iload 3 (o_ic (11) (o_if2 (fun x y => y ≤ x) (o_ic (2) (bL_act_175 i Kn)) (o_ic (1) (bL_act_175 i Kn))))))))) (o_iload 3 (o_ic (2) (o_if2 (fun x y => y ≤ x) (o_iload 3 (o_ic (2) (o_if2 (fun x y => ¬ x = y) (o_aload 0 (o_ic (0) (o_ic (0) (o_ic (0) (o_ic (0) (o_cL 5 1 3 tL_does (bL_act_156 i Kn))))))) (o_aload 0 (o_ic (8) (o_ic (0) (o_ic (0) (o_ic (0) (o_cL 5 1 3 tL_does (bL_act_156 i Kn)))))))))) (o_aload 0 (o_iload 2 (o_if1 (fun x => x = 0) (o_ic (97) (o_iload 1 (o_ic (5) (o_bin (fun x y => x >>> (y &&& 31)) (o_ic (3) (o_cL 2 0 3 tL_low (o_bin (fun x y => x + y) (bL_act_124 i Kn)))))))) (o_iload 1 (o_ic (5) (o_bin (fun x y => x >>> (y &&& 31)) (o_ic (128) (o_cL 2 0 3 tL_low (bL_act_124 i Kn))))))))))))))))
def bL_act_54 (i : Bool) (Kn : QK) : ZK QQ := (o_istore 4 (o_iload 2 (o_if1 (fun x => x = 0) (o_iload 1 (o_ic (9) (o_bin (fun x y => x >>> (y &&& 31)) (o_aload 0 (o_rd0 i 3 (fun μ => gTags μ) (o_cL 2 0 3 tL_low (bL_act_85 i Kn))))))) (o_iload 1 (o_ic (9) (o_bin (fun x y => x >>> (y &&& 31)) (o_ic (26) (o_cL 2 0 3 tL_low (o_ic (1) (o_bin (fun x y => x - y) (bL_act_85 i Kn)))))))))))
def bL_act_17 (i : Bool) (Kn : QK) : ZK QQ := (o_istore 2 (o_iload 1 (o_ic (40) (o_cL 2 0 3 tL_low (o_istore 3 (o_iload 2 (o_if1 (fun x => x = 0) (o_iload 1 (o_ic (6) (o_bin (fun x y => x >>> (y &&& 31)) (o_aload 0 (o_rd0 i 3 (fun μ => gTags μ) (o_cL 2 0 3 tL_low (bL_act_54 i Kn))))))) (o_iload 1 (o_ic (6) (o_bin (fun x y => x >>> (y &&& 31)) (o_ic (26) (o_cL 2 0 3 tL_low (o_ic (1) (o_bin (fun x y => x - y) (bL_act_54 i Kn)))))))))))))))
def bL_act_0 (i : Bool) (Kn : QK) : ZK QQ := (o_iload 1 (o_ic (24) (o_bin (fun x y => x >>> (y &&& 31)) (o_ic (8) (o_cL 2 0 3 tL_low (o_if1 (fun x => ¬ x = 0) (o_ic (0) (bL_act_17 i Kn)) (o_ic (1) (bL_act_17 i Kn))))))))
set_option maxRecDepth 20000 in
theorem sL_act_426 {l : Launch} {z0 b : Nat} {D : va_G} {cA : Nat → ClassId} {p : Program} {e : Env} {s : State} {m : MethodId} {args : Array Value} {below : List Frame} {meth : Method} {c : Code} {Kn : QK} {i : Bool} (hlt : l.stackTraces = false) (C : zCx p l (zRm 9 3 183) s m args meth c cL_act 8 RL z0 D cA 0) (hr : meth.sig.returnType = (some .int)) (HL_low : SemL l z0 b D cA yL_low (Cond.code yL_low cL_low 2 (some .int)) 0 0 2 0 tL_low) (HL_type : SemL l z0 b D cA yL_type (Cond.codeWith yL_type cL_type 3 (some .int) [(0, 5, 6, 41), (0, 5, 10, 43)]) 7 103 2 1 tL_type) (HL_does : SemL l z0 b D cA yL_does (Cond.codeWith yL_does cL_does 6 (some .int) [(0, 129, 130, 38), (0, 129, 135, 41), (0, 129, 140, 43)]) 8 158 5 1 tL_does) : Snd p l e (zRm 9 3 183) s m args below meth c 8 z0 b (I2 z0 b D cA 0 s) (c2 0 0) (zQ2 below z0 b D cA Kn args s 3) 426 (bL_act_426 i Kn) := by
  obtain ⟨hx, hb, hml, hown, hts, -⟩ := id C
  unfold bL_act_426
  refine k_cL C HL_low zlL_57 zsL_low ziL zwL_low (by decide +kernel) ⟨Nat.le_of_ble_eq_true rfl, Nat.le_of_ble_eq_true rfl⟩ ⟨Nat.le_of_ble_eq_true rfl, Nat.le_of_ble_eq_true rfl⟩ dL_act_426 ?_
  refine k_iconst hx hb dL_act_429 (by decide) ?_
  refine k_cLW C HL_does zlL_69 zsL_does ziL zwL_does (by decide +kernel) ⟨Nat.le_of_ble_eq_true rfl, Nat.le_of_ble_eq_true rfl⟩ ⟨Nat.le_of_ble_eq_true rfl, Nat.le_of_ble_eq_true rfl⟩ dL_act_430 ?_
  exact k_ret2 C hr dL_act_433
set_option maxRecDepth 20000 in
theorem sL_act_408 {l : Launch} {z0 b : Nat} {D : va_G} {cA : Nat → ClassId} {p : Program} {e : Env} {s : State} {m : MethodId} {args : Array Value} {below : List Frame} {meth : Method} {c : Code} {Kn : QK} {i : Bool} (hlt : l.stackTraces = false) (C : zCx p l (zRm 9 3 183) s m args meth c cL_act 8 RL z0 D cA 0) (hr : meth.sig.returnType = (some .int)) (HL_low : SemL l z0 b D cA yL_low (Cond.code yL_low cL_low 2 (some .int)) 0 0 2 0 tL_low) (HL_type : SemL l z0 b D cA yL_type (Cond.codeWith yL_type cL_type 3 (some .int) [(0, 5, 6, 41), (0, 5, 10, 43)]) 7 103 2 1 tL_type) (HL_does : SemL l z0 b D cA yL_does (Cond.codeWith yL_does cL_does 6 (some .int) [(0, 129, 130, 38), (0, 129, 135, 41), (0, 129, 140, 43)]) 8 158 5 1 tL_does) : Snd p l e (zRm 9 3 183) s m args below meth c 8 z0 b (I2 z0 b D cA 0 s) (c2 0 0) (zQ2 below z0 b D cA Kn args s 3) 408 (bL_act_408 i Kn) := by
  obtain ⟨hx, hb, hml, hown, hts, -⟩ := id C
  unfold bL_act_408
  refine k_cL C HL_low zlL_57 zsL_low ziL zwL_low (by decide +kernel) ⟨Nat.le_of_ble_eq_true rfl, Nat.le_of_ble_eq_true rfl⟩ ⟨Nat.le_of_ble_eq_true rfl, Nat.le_of_ble_eq_true rfl⟩ dL_act_408 ?_
  refine k_iload_n hx hb dL_act_411 rfl ?_
  refine k_bipush hx hb dL_act_412 (by decide) ?_
  refine k_ishr hx hb dL_act_414 ?_
  refine k_iload_n hx hb dL_act_415 rfl ?_
  refine k_if_eq (tgt := 424) hx hb dL_act_416 (by decide) ?_ ?_
  · refine k_bipush hx hb dL_act_424 (by decide) ?_
    exact sL_act_426 hlt C hr HL_low HL_type HL_does
  · refine k_bipush hx hb dL_act_419 (by decide) ?_
    refine k_goto (tgt := 426) hx hb dL_act_421 (by decide) ?_
    exact sL_act_426 hlt C hr HL_low HL_type HL_does
set_option maxRecDepth 20000 in
theorem sL_act_394 {l : Launch} {z0 b : Nat} {D : va_G} {cA : Nat → ClassId} {p : Program} {e : Env} {s : State} {m : MethodId} {args : Array Value} {below : List Frame} {meth : Method} {c : Code} {Kn : QK} {i : Bool} (hlt : l.stackTraces = false) (C : zCx p l (zRm 9 3 183) s m args meth c cL_act 8 RL z0 D cA 0) (hr : meth.sig.returnType = (some .int)) (HL_low : SemL l z0 b D cA yL_low (Cond.code yL_low cL_low 2 (some .int)) 0 0 2 0 tL_low) (HL_type : SemL l z0 b D cA yL_type (Cond.codeWith yL_type cL_type 3 (some .int) [(0, 5, 6, 41), (0, 5, 10, 43)]) 7 103 2 1 tL_type) (HL_does : SemL l z0 b D cA yL_does (Cond.codeWith yL_does cL_does 6 (some .int) [(0, 129, 130, 38), (0, 129, 135, 41), (0, 129, 140, 43)]) 8 158 5 1 tL_does) : Snd p l e (zRm 9 3 183) s m args below meth c 8 z0 b (I2 z0 b D cA 0 s) (c2 0 0) (zQ2 below z0 b D cA Kn args s 3) 394 (bL_act_394 i Kn) := by
  obtain ⟨hx, hb, hml, hown, hts, -⟩ := id C
  unfold bL_act_394
  refine k_iload_n hx hb dL_act_394 rfl ?_
  refine k_iconst hx hb dL_act_395 (by decide) ?_
  refine k_ishr hx hb dL_act_396 ?_
  refine k_iload_n hx hb dL_act_397 rfl ?_
  refine k_if_eq (tgt := 406) hx hb dL_act_398 (by decide) ?_ ?_
  · refine k_bipush hx hb dL_act_406 (by decide) ?_
    exact sL_act_408 hlt C hr HL_low HL_type HL_does
  · refine k_bipush hx hb dL_act_401 (by decide) ?_
    refine k_goto (tgt := 408) hx hb dL_act_403 (by decide) ?_
    exact sL_act_408 hlt C hr HL_low HL_type HL_does
set_option maxRecDepth 20000 in
theorem sL_act_375 {l : Launch} {z0 b : Nat} {D : va_G} {cA : Nat → ClassId} {p : Program} {e : Env} {s : State} {m : MethodId} {args : Array Value} {below : List Frame} {meth : Method} {c : Code} {Kn : QK} {i : Bool} (hlt : l.stackTraces = false) (C : zCx p l (zRm 9 3 183) s m args meth c cL_act 8 RL z0 D cA 0) (hr : meth.sig.returnType = (some .int)) (HL_low : SemL l z0 b D cA yL_low (Cond.code yL_low cL_low 2 (some .int)) 0 0 2 0 tL_low) (HL_type : SemL l z0 b D cA yL_type (Cond.codeWith yL_type cL_type 3 (some .int) [(0, 5, 6, 41), (0, 5, 10, 43)]) 7 103 2 1 tL_type) (HL_does : SemL l z0 b D cA yL_does (Cond.codeWith yL_does cL_does 6 (some .int) [(0, 129, 130, 38), (0, 129, 135, 41), (0, 129, 140, 43)]) 8 158 5 1 tL_does) : Snd p l e (zRm 9 3 183) s m args below meth c 8 z0 b (I2 z0 b D cA 0 s) (c2 0 0) (zQ2 below z0 b D cA Kn args s 3) 375 (bL_act_375 i Kn) := by
  obtain ⟨hx, hb, hml, hown, hts, -⟩ := id C
  unfold bL_act_375
  exact k_ret2 C hr dL_act_375
set_option maxRecDepth 20000 in
theorem sL_act_373 {l : Launch} {z0 b : Nat} {D : va_G} {cA : Nat → ClassId} {p : Program} {e : Env} {s : State} {m : MethodId} {args : Array Value} {below : List Frame} {meth : Method} {c : Code} {Kn : QK} {i : Bool} (hlt : l.stackTraces = false) (C : zCx p l (zRm 9 3 183) s m args meth c cL_act 8 RL z0 D cA 0) (hr : meth.sig.returnType = (some .int)) (HL_low : SemL l z0 b D cA yL_low (Cond.code yL_low cL_low 2 (some .int)) 0 0 2 0 tL_low) (HL_type : SemL l z0 b D cA yL_type (Cond.codeWith yL_type cL_type 3 (some .int) [(0, 5, 6, 41), (0, 5, 10, 43)]) 7 103 2 1 tL_type) (HL_does : SemL l z0 b D cA yL_does (Cond.codeWith yL_does cL_does 6 (some .int) [(0, 129, 130, 38), (0, 129, 135, 41), (0, 129, 140, 43)]) 8 158 5 1 tL_does) : Snd p l e (zRm 9 3 183) s m args below meth c 8 z0 b (I2 z0 b D cA 0 s) (c2 0 0) (zQ2 below z0 b D cA Kn args s 3) 373 (bL_act_373 i Kn) := by
  obtain ⟨hx, hb, hml, hown, hts, -⟩ := id C
  unfold bL_act_373
  refine k_ldc hx hb hown (hts _ zkL_76) dL_act_373 ?_
  exact sL_act_375 hlt C hr HL_low HL_type HL_does
set_option maxRecDepth 20000 in
theorem sL_act_368 {l : Launch} {z0 b : Nat} {D : va_G} {cA : Nat → ClassId} {p : Program} {e : Env} {s : State} {m : MethodId} {args : Array Value} {below : List Frame} {meth : Method} {c : Code} {Kn : QK} {i : Bool} (hlt : l.stackTraces = false) (C : zCx p l (zRm 9 3 183) s m args meth c cL_act 8 RL z0 D cA 0) (hr : meth.sig.returnType = (some .int)) (HL_low : SemL l z0 b D cA yL_low (Cond.code yL_low cL_low 2 (some .int)) 0 0 2 0 tL_low) (HL_type : SemL l z0 b D cA yL_type (Cond.codeWith yL_type cL_type 3 (some .int) [(0, 5, 6, 41), (0, 5, 10, 43)]) 7 103 2 1 tL_type) (HL_does : SemL l z0 b D cA yL_does (Cond.codeWith yL_does cL_does 6 (some .int) [(0, 129, 130, 38), (0, 129, 135, 41), (0, 129, 140, 43)]) 8 158 5 1 tL_does) : Snd p l e (zRm 9 3 183) s m args below meth c 8 z0 b (I2 z0 b D cA 0 s) (c2 0 0) (zQ2 below z0 b D cA Kn args s 3) 368 (bL_act_368 i Kn) := by
  obtain ⟨hx, hb, hml, hown, hts, -⟩ := id C
  unfold bL_act_368
  refine k_iload hx hb dL_act_368 ?_
  refine k_goto (tgt := 375) hx hb dL_act_370 (by decide) ?_
  exact sL_act_375 hlt C hr HL_low HL_type HL_does
set_option maxRecDepth 20000 in
theorem sL_act_322 {l : Launch} {z0 b : Nat} {D : va_G} {cA : Nat → ClassId} {p : Program} {e : Env} {s : State} {m : MethodId} {args : Array Value} {below : List Frame} {meth : Method} {c : Code} {Kn : QK} {i : Bool} (hlt : l.stackTraces = false) (C : zCx p l (zRm 9 3 183) s m args meth c cL_act 8 RL z0 D cA 0) (hr : meth.sig.returnType = (some .int)) (HL_low : SemL l z0 b D cA yL_low (Cond.code yL_low cL_low 2 (some .int)) 0 0 2 0 tL_low) (HL_type : SemL l z0 b D cA yL_type (Cond.codeWith yL_type cL_type 3 (some .int) [(0, 5, 6, 41), (0, 5, 10, 43)]) 7 103 2 1 tL_type) (HL_does : SemL l z0 b D cA yL_does (Cond.codeWith yL_does cL_does 6 (some .int) [(0, 129, 130, 38), (0, 129, 135, 41), (0, 129, 140, 43)]) 8 158 5 1 tL_does) : Snd p l e (zRm 9 3 183) s m args below meth c 8 z0 b (I2 z0 b D cA 0 s) (c2 0 0) (zQ2 below z0 b D cA Kn args s 3) 322 (bL_act_322 i Kn) := by
  obtain ⟨hx, hb, hml, hown, hts, -⟩ := id C
  unfold bL_act_322
  refine k_istore hx hb dL_act_322 ?_
  refine k_aload_n hx hb dL_act_324 rfl ?_
  refine k_iconst hx hb dL_act_325 (by decide) ?_
  refine k_iload hx hb dL_act_326 ?_
  refine k_iload hx hb dL_act_328 ?_
  refine k_iload hx hb dL_act_330 ?_
  refine k_cLW C HL_does zlL_69 zsL_does ziL zwL_does (by decide +kernel) ⟨Nat.le_of_ble_eq_true rfl, Nat.le_of_ble_eq_true rfl⟩ ⟨Nat.le_of_ble_eq_true rfl, Nat.le_of_ble_eq_true rfl⟩ dL_act_332 ?_
  refine k_istore hx hb dL_act_335 ?_
  refine k_iload hx hb dL_act_337 ?_
  refine k_if_lt (tgt := 368) hx hb dL_act_339 (by decide) ?_ ?_
  · exact sL_act_368 hlt C hr HL_low HL_type HL_does
  · refine k_aload_n hx hb dL_act_342 rfl ?_
    refine k_bipush hx hb dL_act_343 (by decide) ?_
    refine k_iload hx hb dL_act_345 ?_
    refine k_iconst hx hb dL_act_347 (by decide) ?_
    refine k_iconst hx hb dL_act_348 (by decide) ?_
    refine k_cLW C HL_does zlL_69 zsL_does ziL zwL_does (by decide +kernel) ⟨Nat.le_of_ble_eq_true rfl, Nat.le_of_ble_eq_true rfl⟩ ⟨Nat.le_of_ble_eq_true rfl, Nat.le_of_ble_eq_true rfl⟩ dL_act_349 ?_
    refine k_if_ne (tgt := 373) hx hb dL_act_352 (by decide) ?_ ?_
    · exact sL_act_373 hlt C hr HL_low HL_type HL_does
    · refine k_aload_n hx hb dL_act_355 rfl ?_
      refine k_bipush hx hb dL_act_356 (by decide) ?_
      refine k_iload hx hb dL_act_358 ?_
      refine k_iconst hx hb dL_act_360 (by decide) ?_
      refine k_iconst hx hb dL_act_361 (by decide) ?_
      refine k_cLW C HL_does zlL_69 zsL_does ziL zwL_does (by decide +kernel) ⟨Nat.le_of_ble_eq_true rfl, Nat.le_of_ble_eq_true rfl⟩ ⟨Nat.le_of_ble_eq_true rfl, Nat.le_of_ble_eq_true rfl⟩ dL_act_362 ?_
      refine k_if_ne (tgt := 373) hx hb dL_act_365 (by decide) ?_ ?_
      · exact sL_act_373 hlt C hr HL_low HL_type HL_does
      · exact sL_act_368 hlt C hr HL_low HL_type HL_does
set_option maxRecDepth 20000 in
theorem sL_act_266 {l : Launch} {z0 b : Nat} {D : va_G} {cA : Nat → ClassId} {p : Program} {e : Env} {s : State} {m : MethodId} {args : Array Value} {below : List Frame} {meth : Method} {c : Code} {Kn : QK} {i : Bool} (hlt : l.stackTraces = false) (C : zCx p l (zRm 9 3 183) s m args meth c cL_act 8 RL z0 D cA 0) (hr : meth.sig.returnType = (some .int)) (HL_low : SemL l z0 b D cA yL_low (Cond.code yL_low cL_low 2 (some .int)) 0 0 2 0 tL_low) (HL_type : SemL l z0 b D cA yL_type (Cond.codeWith yL_type cL_type 3 (some .int) [(0, 5, 6, 41), (0, 5, 10, 43)]) 7 103 2 1 tL_type) (HL_does : SemL l z0 b D cA yL_does (Cond.codeWith yL_does cL_does 6 (some .int) [(0, 129, 130, 38), (0, 129, 135, 41), (0, 129, 140, 43)]) 8 158 5 1 tL_does) : Snd p l e (zRm 9 3 183) s m args below meth c 8 z0 b (I2 z0 b D cA 0 s) (c2 0 0) (zQ2 below z0 b D cA Kn args s 3) 266 (bL_act_266 i Kn) := by
  obtain ⟨hx, hb, hml, hown, hts, -⟩ := id C
  unfold bL_act_266
  exact k_ret2 C hr dL_act_266
set_option maxRecDepth 20000 in
theorem sL_act_248 {l : Launch} {z0 b : Nat} {D : va_G} {cA : Nat → ClassId} {p : Program} {e : Env} {s : State} {m : MethodId} {args : Array Value} {below : List Frame} {meth : Method} {c : Code} {Kn : QK} {i : Bool} (hlt : l.stackTraces = false) (C : zCx p l (zRm 9 3 183) s m args meth c cL_act 8 RL z0 D cA 0) (hr : meth.sig.returnType = (some .int)) (HL_low : SemL l z0 b D cA yL_low (Cond.code yL_low cL_low 2 (some .int)) 0 0 2 0 tL_low) (HL_type : SemL l z0 b D cA yL_type (Cond.codeWith yL_type cL_type 3 (some .int) [(0, 5, 6, 41), (0, 5, 10, 43)]) 7 103 2 1 tL_type) (HL_does : SemL l z0 b D cA yL_does (Cond.codeWith yL_does cL_does 6 (some .int) [(0, 129, 130, 38), (0, 129, 135, 41), (0, 129, 140, 43)]) 8 158 5 1 tL_does) : Snd p l e (zRm 9 3 183) s m args below meth c 8 z0 b (I2 z0 b D cA 0 s) (c2 0 0) (zQ2 below z0 b D cA Kn args s 3) 248 (bL_act_248 i Kn) := by
  obtain ⟨hx, hb, hml, hown, hts, -⟩ := id C
  unfold bL_act_248
  refine k_iload hx hb dL_act_248 ?_
  refine k_iload hx hb dL_act_250 ?_
  refine k_cLW C HL_does zlL_69 zsL_does ziL zwL_does (by decide +kernel) ⟨Nat.le_of_ble_eq_true rfl, Nat.le_of_ble_eq_true rfl⟩ ⟨Nat.le_of_ble_eq_true rfl, Nat.le_of_ble_eq_true rfl⟩ dL_act_252 ?_
  refine k_goto (tgt := 266) hx hb dL_act_255 (by decide) ?_
  exact sL_act_266 hlt C hr HL_low HL_type HL_does
set_option maxRecDepth 20000 in
theorem sL_act_202 {l : Launch} {z0 b : Nat} {D : va_G} {cA : Nat → ClassId} {p : Program} {e : Env} {s : State} {m : MethodId} {args : Array Value} {below : List Frame} {meth : Method} {c : Code} {Kn : QK} {i : Bool} (hlt : l.stackTraces = false) (C : zCx p l (zRm 9 3 183) s m args meth c cL_act 8 RL z0 D cA 0) (hr : meth.sig.returnType = (some .int)) (HL_low : SemL l z0 b D cA yL_low (Cond.code yL_low cL_low 2 (some .int)) 0 0 2 0 tL_low) (HL_type : SemL l z0 b D cA yL_type (Cond.codeWith yL_type cL_type 3 (some .int) [(0, 5, 6, 41), (0, 5, 10, 43)]) 7 103 2 1 tL_type) (HL_does : SemL l z0 b D cA yL_does (Cond.codeWith yL_does cL_does 6 (some .int) [(0, 129, 130, 38), (0, 129, 135, 41), (0, 129, 140, 43)]) 8 158 5 1 tL_does) : Snd p l e (zRm 9 3 183) s m args below meth c 8 z0 b (I2 z0 b D cA 0 s) (c2 0 0) (zQ2 below z0 b D cA Kn args s 3) 202 (bL_act_202 i Kn) := by
  obtain ⟨hx, hb, hml, hown, hts, -⟩ := id C
  unfold bL_act_202
  refine k_iload hx hb dL_act_202 ?_
  refine k_iconst hx hb dL_act_204 (by decide) ?_
  refine k_cLW C HL_does zlL_69 zsL_does ziL zwL_does (by decide +kernel) ⟨Nat.le_of_ble_eq_true rfl, Nat.le_of_ble_eq_true rfl⟩ ⟨Nat.le_of_ble_eq_true rfl, Nat.le_of_ble_eq_true rfl⟩ dL_act_205 ?_
  exact k_ret2 C hr dL_act_208
set_option maxRecDepth 20000 in
theorem sL_act_175 {l : Launch} {z0 b : Nat} {D : va_G} {cA : Nat → ClassId} {p : Program} {e : Env} {s : State} {m : MethodId} {args : Array Value} {below : List Frame} {meth : Method} {c : Code} {Kn : QK} {i : Bool} (hlt : l.stackTraces = false) (C : zCx p l (zRm 9 3 183) s m args meth c cL_act 8 RL z0 D cA 0) (hr : meth.sig.returnType = (some .int)) (HL_low : SemL l z0 b D cA yL_low (Cond.code yL_low cL_low 2 (some .int)) 0 0 2 0 tL_low) (HL_type : SemL l z0 b D cA yL_type (Cond.codeWith yL_type cL_type 3 (some .int) [(0, 5, 6, 41), (0, 5, 10, 43)]) 7 103 2 1 tL_type) (HL_does : SemL l z0 b D cA yL_does (Cond.codeWith yL_does cL_does 6 (some .int) [(0, 129, 130, 38), (0, 129, 135, 41), (0, 129, 140, 43)]) 8 158 5 1 tL_does) : Snd p l e (zRm 9 3 183) s m args below meth c 8 z0 b (I2 z0 b D cA 0 s) (c2 0 0) (zQ2 below z0 b D cA Kn args s 3) 175 (bL_act_175 i Kn) := by
  obtain ⟨hx, hb, hml, hown, hts, -⟩ := id C
  unfold bL_act_175
  refine k_iload_n hx hb dL_act_175 rfl ?_
  refine k_if_eq (tgt := 192) hx hb dL_act_176 (by decide) ?_ ?_
  · refine k_iload_n hx hb dL_act_192 rfl ?_
    refine k_iconst hx hb dL_act_193 (by decide) ?_
    refine k_ishr hx hb dL_act_194 ?_
    refine k_aload_n hx hb dL_act_195 rfl ?_
    refine k_rd0 C (i := i) (MB := 3) (g := (fun μ => gThings μ)) (wp := w11) (fun z0 N => mX5_things hlt) (fun σ μ h => sim_things h) w11_n (fun μ => ro_things) rfl zlL_73 zmX5_things zvX5_things ziX5 zcX5_things (by decide +kernel) ⟨Nat.le_of_ble_eq_true rfl, Nat.le_of_ble_eq_true rfl⟩ ⟨Nat.le_of_ble_eq_true rfl, Nat.le_of_ble_eq_true rfl⟩ dL_act_196 ?_
    refine k_cL C HL_low zlL_57 zsL_low ziL zwL_low (by decide +kernel) ⟨Nat.le_of_ble_eq_true rfl, Nat.le_of_ble_eq_true rfl⟩ ⟨Nat.le_of_ble_eq_true rfl, Nat.le_of_ble_eq_true rfl⟩ dL_act_199 ?_
    exact sL_act_202 hlt C hr HL_low HL_type HL_does
  · refine k_iload_n hx hb dL_act_179 rfl ?_
    refine k_iconst hx hb dL_act_180 (by decide) ?_
    refine k_ishr hx hb dL_act_181 ?_
    refine k_bipush hx hb dL_act_182 (by decide) ?_
    refine k_cL C HL_low zlL_57 zsL_low ziL zwL_low (by decide +kernel) ⟨Nat.le_of_ble_eq_true rfl, Nat.le_of_ble_eq_true rfl⟩ ⟨Nat.le_of_ble_eq_true rfl, Nat.le_of_ble_eq_true rfl⟩ dL_act_184 ?_
    refine k_iconst hx hb dL_act_187 (by decide) ?_
    refine k_isub hx hb dL_act_188 ?_
    refine k_goto (tgt := 202) hx hb dL_act_189 (by decide) ?_
    exact sL_act_202 hlt C hr HL_low HL_type HL_does
set_option maxRecDepth 20000 in
theorem sL_act_156 {l : Launch} {z0 b : Nat} {D : va_G} {cA : Nat → ClassId} {p : Program} {e : Env} {s : State} {m : MethodId} {args : Array Value} {below : List Frame} {meth : Method} {c : Code} {Kn : QK} {i : Bool} (hlt : l.stackTraces = false) (C : zCx p l (zRm 9 3 183) s m args meth c cL_act 8 RL z0 D cA 0) (hr : meth.sig.returnType = (some .int)) (HL_low : SemL l z0 b D cA yL_low (Cond.code yL_low cL_low 2 (some .int)) 0 0 2 0 tL_low) (HL_type : SemL l z0 b D cA yL_type (Cond.codeWith yL_type cL_type 3 (some .int) [(0, 5, 6, 41), (0, 5, 10, 43)]) 7 103 2 1 tL_type) (HL_does : SemL l z0 b D cA yL_does (Cond.codeWith yL_does cL_does 6 (some .int) [(0, 129, 130, 38), (0, 129, 135, 41), (0, 129, 140, 43)]) 8 158 5 1 tL_does) : Snd p l e (zRm 9 3 183) s m args below meth c 8 z0 b (I2 z0 b D cA 0 s) (c2 0 0) (zQ2 below z0 b D cA Kn args s 3) 156 (bL_act_156 i Kn) := by
  obtain ⟨hx, hb, hml, hown, hts, -⟩ := id C
  unfold bL_act_156
  exact k_ret2 C hr dL_act_156
set_option maxRecDepth 20000 in
theorem sL_act_124 {l : Launch} {z0 b : Nat} {D : va_G} {cA : Nat → ClassId} {p : Program} {e : Env} {s : State} {m : MethodId} {args : Array Value} {below : List Frame} {meth : Method} {c : Code} {Kn : QK} {i : Bool} (hlt : l.stackTraces = false) (C : zCx p l (zRm 9 3 183) s m args meth c cL_act 8 RL z0 D cA 0) (hr : meth.sig.returnType = (some .int)) (HL_low : SemL l z0 b D cA yL_low (Cond.code yL_low cL_low 2 (some .int)) 0 0 2 0 tL_low) (HL_type : SemL l z0 b D cA yL_type (Cond.codeWith yL_type cL_type 3 (some .int) [(0, 5, 6, 41), (0, 5, 10, 43)]) 7 103 2 1 tL_type) (HL_does : SemL l z0 b D cA yL_does (Cond.codeWith yL_does cL_does 6 (some .int) [(0, 129, 130, 38), (0, 129, 135, 41), (0, 129, 140, 43)]) 8 158 5 1 tL_does) : Snd p l e (zRm 9 3 183) s m args below meth c 8 z0 b (I2 z0 b D cA 0 s) (c2 0 0) (zQ2 below z0 b D cA Kn args s 3) 124 (bL_act_124 i Kn) := by
  obtain ⟨hx, hb, hml, hown, hts, -⟩ := id C
  unfold bL_act_124
  refine k_i2c hx hb dL_act_124 ?_
  refine k_cLW C HL_type zlL_66 zsL_type ziL zwL_type (by decide +kernel) ⟨Nat.le_of_ble_eq_true rfl, Nat.le_of_ble_eq_true rfl⟩ ⟨Nat.le_of_ble_eq_true rfl, Nat.le_of_ble_eq_true rfl⟩ dL_act_125 ?_
  refine k_goto (tgt := 156) hx hb dL_act_128 (by decide) ?_
  exact sL_act_156 hlt C hr HL_low HL_type HL_does
set_option maxRecDepth 20000 in
theorem sL_act_85 {l : Launch} {z0 b : Nat} {D : va_G} {cA : Nat → ClassId} {p : Program} {e : Env} {s : State} {m : MethodId} {args : Array Value} {below : List Frame} {meth : Method} {c : Code} {Kn : QK} {i : Bool} (hlt : l.stackTraces = false) (C : zCx p l (zRm 9 3 183) s m args meth c cL_act 8 RL z0 D cA 0) (hr : meth.sig.returnType = (some .int)) (HL_low : SemL l z0 b D cA yL_low (Cond.code yL_low cL_low 2 (some .int)) 0 0 2 0 tL_low) (HL_type : SemL l z0 b D cA yL_type (Cond.codeWith yL_type cL_type 3 (some .int) [(0, 5, 6, 41), (0, 5, 10, 43)]) 7 103 2 1 tL_type) (HL_does : SemL l z0 b D cA yL_does (Cond.codeWith yL_does cL_does 6 (some .int) [(0, 129, 130, 38), (0, 129, 135, 41), (0, 129, 140, 43)]) 8 158 5 1 tL_does) : Snd p l e (zRm 9 3 183) s m args below meth c 8 z0 b (I2 z0 b D cA 0 s) (c2 0 0) (zQ2 below z0 b D cA Kn args s 3) 85 (bL_act_85 i Kn) := by
  obtain ⟨hx, hb, hml, hown, hts, -⟩ := id C
  unfold bL_act_85
  refine k_istore hx hb dL_act_85 ?_
  refine k_iload_n hx hb dL_act_87 rfl ?_
  refine k_iconst hx hb dL_act_88 (by decide) ?_
  refine k_icmp_ge (tgt := 157) hx hb dL_act_89 (by decide) ?_ ?_
  · refine k_iload_n hx hb dL_act_157 rfl ?_
    refine k_bipush hx hb dL_act_158 (by decide) ?_
    refine k_icmp_ge (tgt := 209) hx hb dL_act_160 (by decide) ?_ ?_
    · refine k_iload_n hx hb dL_act_209 rfl ?_
      refine k_bipush hx hb dL_act_210 (by decide) ?_
      refine k_icmp_ge (tgt := 267) hx hb dL_act_212 (by decide) ?_ ?_
      · refine k_iload_n hx hb dL_act_267 rfl ?_
        refine k_bipush hx hb dL_act_268 (by decide) ?_
        refine k_icmp_ge (tgt := 376) hx hb dL_act_270 (by decide) ?_ ?_
        · refine k_aload_n hx hb dL_act_376 rfl ?_
          refine k_iload_n hx hb dL_act_377 rfl ?_
          refine k_bipush hx hb dL_act_378 (by decide) ?_
          refine k_ishr hx hb dL_act_380 ?_
          refine k_bipush hx hb dL_act_381 (by decide) ?_
          refine k_iand hx hb dL_act_383 ?_
          refine k_if_le (tgt := 392) hx hb dL_act_384 (by decide) ?_ ?_
          · refine k_bipush hx hb dL_act_392 (by decide) ?_
            exact sL_act_394 hlt C hr HL_low HL_type HL_does
          · refine k_bipush hx hb dL_act_387 (by decide) ?_
            refine k_goto (tgt := 394) hx hb dL_act_389 (by decide) ?_
            exact sL_act_394 hlt C hr HL_low HL_type HL_does
        · refine k_iload_n hx hb dL_act_273 rfl ?_
          refine k_if_eq (tgt := 291) hx hb dL_act_274 (by decide) ?_ ?_
          · refine k_iload_n hx hb dL_act_291 rfl ?_
            refine k_bipush hx hb dL_act_292 (by decide) ?_
            refine k_icmp_ge (tgt := 301) hx hb dL_act_294 (by decide) ?_ ?_
            · refine k_iload_n hx hb dL_act_301 rfl ?_
              refine k_bipush hx hb dL_act_302 (by decide) ?_
              refine k_icmp_ge (tgt := 311) hx hb dL_act_304 (by decide) ?_ ?_
              · refine k_iload_n hx hb dL_act_311 rfl ?_
                refine k_bipush hx hb dL_act_312 (by decide) ?_
                refine k_icmp_ge (tgt := 321) hx hb dL_act_314 (by decide) ?_ ?_
                · refine k_iconst hx hb dL_act_321 (by decide) ?_
                  exact sL_act_322 hlt C hr HL_low HL_type HL_does
                · refine k_iconst hx hb dL_act_317 (by decide) ?_
                  refine k_goto (tgt := 322) hx hb dL_act_318 (by decide) ?_
                  exact sL_act_322 hlt C hr HL_low HL_type HL_does
              · refine k_iconst hx hb dL_act_307 (by decide) ?_
                refine k_goto (tgt := 322) hx hb dL_act_308 (by decide) ?_
                exact sL_act_322 hlt C hr HL_low HL_type HL_does
            · refine k_iconst hx hb dL_act_297 (by decide) ?_
              refine k_goto (tgt := 322) hx hb dL_act_298 (by decide) ?_
              exact sL_act_322 hlt C hr HL_low HL_type HL_does
          · refine k_iload_n hx hb dL_act_277 rfl ?_
            refine k_bipush hx hb dL_act_278 (by decide) ?_
            refine k_ishr hx hb dL_act_280 ?_
            refine k_bipush hx hb dL_act_281 (by decide) ?_
            refine k_cL C HL_low zlL_57 zsL_low ziL zwL_low (by decide +kernel) ⟨Nat.le_of_ble_eq_true rfl, Nat.le_of_ble_eq_true rfl⟩ ⟨Nat.le_of_ble_eq_true rfl, Nat.le_of_ble_eq_true rfl⟩ dL_act_283 ?_
            refine k_iconst hx hb dL_act_286 (by decide) ?_
            refine k_isub hx hb dL_act_287 ?_
            refine k_goto (tgt := 322) hx hb dL_act_288 (by decide) ?_
            exact sL_act_322 hlt C hr HL_low HL_type HL_does
      · refine k_iload_n hx hb dL_act_215 rfl ?_
        refine k_bipush hx hb dL_act_216 (by decide) ?_
        refine k_icmp_ge (tgt := 258) hx hb dL_act_218 (by decide) ?_ ?_
        · refine k_aload_n hx hb dL_act_258 rfl ?_
          refine k_iconst hx hb dL_act_259 (by decide) ?_
          refine k_iconst hx hb dL_act_260 (by decide) ?_
          refine k_iconst hx hb dL_act_261 (by decide) ?_
          refine k_iconst hx hb dL_act_262 (by decide) ?_
          refine k_cLW C HL_does zlL_69 zsL_does ziL zwL_does (by decide +kernel) ⟨Nat.le_of_ble_eq_true rfl, Nat.le_of_ble_eq_true rfl⟩ ⟨Nat.le_of_ble_eq_true rfl, Nat.le_of_ble_eq_true rfl⟩ dL_act_263 ?_
          exact sL_act_266 hlt C hr HL_low HL_type HL_does
        · refine k_aload_n hx hb dL_act_221 rfl ?_
          refine k_iconst hx hb dL_act_222 (by decide) ?_
          refine k_iload_n hx hb dL_act_223 rfl ?_
          refine k_if_eq (tgt := 240) hx hb dL_act_224 (by decide) ?_ ?_
          · refine k_iload_n hx hb dL_act_240 rfl ?_
            refine k_bipush hx hb dL_act_241 (by decide) ?_
            refine k_ishr hx hb dL_act_243 ?_
            refine k_iconst hx hb dL_act_244 (by decide) ?_
            refine k_cL C HL_low zlL_57 zsL_low ziL zwL_low (by decide +kernel) ⟨Nat.le_of_ble_eq_true rfl, Nat.le_of_ble_eq_true rfl⟩ ⟨Nat.le_of_ble_eq_true rfl, Nat.le_of_ble_eq_true rfl⟩ dL_act_245 ?_
            exact sL_act_248 hlt C hr HL_low HL_type HL_does
          · refine k_iload_n hx hb dL_act_227 rfl ?_
            refine k_bipush hx hb dL_act_228 (by decide) ?_
            refine k_ishr hx hb dL_act_230 ?_
            refine k_iconst hx hb dL_act_231 (by decide) ?_
            refine k_cL C HL_low zlL_57 zsL_low ziL zwL_low (by decide +kernel) ⟨Nat.le_of_ble_eq_true rfl, Nat.le_of_ble_eq_true rfl⟩ ⟨Nat.le_of_ble_eq_true rfl, Nat.le_of_ble_eq_true rfl⟩ dL_act_232 ?_
            refine k_iconst hx hb dL_act_235 (by decide) ?_
            refine k_isub hx hb dL_act_236 ?_
            refine k_goto (tgt := 248) hx hb dL_act_237 (by decide) ?_
            exact sL_act_248 hlt C hr HL_low HL_type HL_does
    · refine k_aload_n hx hb dL_act_163 rfl ?_
      refine k_iload_n hx hb dL_act_164 rfl ?_
      refine k_bipush hx hb dL_act_165 (by decide) ?_
      refine k_icmp_ge (tgt := 174) hx hb dL_act_167 (by decide) ?_ ?_
      · refine k_iconst hx hb dL_act_174 (by decide) ?_
        exact sL_act_175 hlt C hr HL_low HL_type HL_does
      · refine k_iconst hx hb dL_act_170 (by decide) ?_
        refine k_goto (tgt := 175) hx hb dL_act_171 (by decide) ?_
        exact sL_act_175 hlt C hr HL_low HL_type HL_does
  · refine k_iload_n hx hb dL_act_92 rfl ?_
    refine k_iconst hx hb dL_act_93 (by decide) ?_
    refine k_icmp_ge (tgt := 131) hx hb dL_act_94 (by decide) ?_ ?_
    · refine k_iload_n hx hb dL_act_131 rfl ?_
      refine k_iconst hx hb dL_act_132 (by decide) ?_
      refine k_icmp_ne (tgt := 148) hx hb dL_act_133 (by decide) ?_ ?_
      · refine k_aload_n hx hb dL_act_148 rfl ?_
        refine k_iconst hx hb dL_act_149 (by decide) ?_
        refine k_iconst hx hb dL_act_150 (by decide) ?_
        refine k_iconst hx hb dL_act_151 (by decide) ?_
        refine k_iconst hx hb dL_act_152 (by decide) ?_
        refine k_cLW C HL_does zlL_69 zsL_does ziL zwL_does (by decide +kernel) ⟨Nat.le_of_ble_eq_true rfl, Nat.le_of_ble_eq_true rfl⟩ ⟨Nat.le_of_ble_eq_true rfl, Nat.le_of_ble_eq_true rfl⟩ dL_act_153 ?_
        exact sL_act_156 hlt C hr HL_low HL_type HL_does
      · refine k_aload_n hx hb dL_act_136 rfl ?_
        refine k_bipush hx hb dL_act_137 (by decide) ?_
        refine k_iconst hx hb dL_act_139 (by decide) ?_
        refine k_iconst hx hb dL_act_140 (by decide) ?_
        refine k_iconst hx hb dL_act_141 (by decide) ?_
        refine k_cLW C HL_does zlL_69 zsL_does ziL zwL_does (by decide +kernel) ⟨Nat.le_of_ble_eq_true rfl, Nat.le_of_ble_eq_true rfl⟩ ⟨Nat.le_of_ble_eq_true rfl, Nat.le_of_ble_eq_true rfl⟩ dL_act_142 ?_
        refine k_goto (tgt := 156) hx hb dL_act_145 (by decide) ?_
        exact sL_act_156 hlt C hr HL_low HL_type HL_does
    · refine k_aload_n hx hb dL_act_97 rfl ?_
      refine k_iload_n hx hb dL_act_98 rfl ?_
      refine k_if_eq (tgt := 114) hx hb dL_act_99 (by decide) ?_ ?_
      · refine k_bipush hx hb dL_act_114 (by decide) ?_
        refine k_iload_n hx hb dL_act_116 rfl ?_
        refine k_iconst hx hb dL_act_117 (by decide) ?_
        refine k_ishr hx hb dL_act_118 ?_
        refine k_iconst hx hb dL_act_119 (by decide) ?_
        refine k_cL C HL_low zlL_57 zsL_low ziL zwL_low (by decide +kernel) ⟨Nat.le_of_ble_eq_true rfl, Nat.le_of_ble_eq_true rfl⟩ ⟨Nat.le_of_ble_eq_true rfl, Nat.le_of_ble_eq_true rfl⟩ dL_act_120 ?_
        refine k_iadd hx hb dL_act_123 ?_
        exact sL_act_124 hlt C hr HL_low HL_type HL_does
      · refine k_iload_n hx hb dL_act_102 rfl ?_
        refine k_iconst hx hb dL_act_103 (by decide) ?_
        refine k_ishr hx hb dL_act_104 ?_
        refine k_sipush hx hb dL_act_105 (by decide) ?_
        refine k_cL C HL_low zlL_57 zsL_low ziL zwL_low (by decide +kernel) ⟨Nat.le_of_ble_eq_true rfl, Nat.le_of_ble_eq_true rfl⟩ ⟨Nat.le_of_ble_eq_true rfl, Nat.le_of_ble_eq_true rfl⟩ dL_act_108 ?_
        refine k_goto (tgt := 124) hx hb dL_act_111 (by decide) ?_
        exact sL_act_124 hlt C hr HL_low HL_type HL_does
set_option maxRecDepth 20000 in
theorem sL_act_54 {l : Launch} {z0 b : Nat} {D : va_G} {cA : Nat → ClassId} {p : Program} {e : Env} {s : State} {m : MethodId} {args : Array Value} {below : List Frame} {meth : Method} {c : Code} {Kn : QK} {i : Bool} (hlt : l.stackTraces = false) (C : zCx p l (zRm 9 3 183) s m args meth c cL_act 8 RL z0 D cA 0) (hr : meth.sig.returnType = (some .int)) (HL_low : SemL l z0 b D cA yL_low (Cond.code yL_low cL_low 2 (some .int)) 0 0 2 0 tL_low) (HL_type : SemL l z0 b D cA yL_type (Cond.codeWith yL_type cL_type 3 (some .int) [(0, 5, 6, 41), (0, 5, 10, 43)]) 7 103 2 1 tL_type) (HL_does : SemL l z0 b D cA yL_does (Cond.codeWith yL_does cL_does 6 (some .int) [(0, 129, 130, 38), (0, 129, 135, 41), (0, 129, 140, 43)]) 8 158 5 1 tL_does) : Snd p l e (zRm 9 3 183) s m args below meth c 8 z0 b (I2 z0 b D cA 0 s) (c2 0 0) (zQ2 below z0 b D cA Kn args s 3) 54 (bL_act_54 i Kn) := by
  obtain ⟨hx, hb, hml, hown, hts, -⟩ := id C
  unfold bL_act_54
  refine k_istore hx hb dL_act_54 ?_
  refine k_iload_n hx hb dL_act_56 rfl ?_
  refine k_if_eq (tgt := 74) hx hb dL_act_57 (by decide) ?_ ?_
  · refine k_iload_n hx hb dL_act_74 rfl ?_
    refine k_bipush hx hb dL_act_75 (by decide) ?_
    refine k_ishr hx hb dL_act_77 ?_
    refine k_aload_n hx hb dL_act_78 rfl ?_
    refine k_rd0 C (i := i) (MB := 3) (g := (fun μ => gTags μ)) (wp := w11) (fun z0 N => mX5_tags hlt) (fun σ μ h => sim_tags h) w11_n (fun μ => ro_tags) rfl zlL_63 zmX5_tags zvX5_tags ziX5 zcX5_tags (by decide +kernel) ⟨Nat.le_of_ble_eq_true rfl, Nat.le_of_ble_eq_true rfl⟩ ⟨Nat.le_of_ble_eq_true rfl, Nat.le_of_ble_eq_true rfl⟩ dL_act_79 ?_
    refine k_cL C HL_low zlL_57 zsL_low ziL zwL_low (by decide +kernel) ⟨Nat.le_of_ble_eq_true rfl, Nat.le_of_ble_eq_true rfl⟩ ⟨Nat.le_of_ble_eq_true rfl, Nat.le_of_ble_eq_true rfl⟩ dL_act_82 ?_
    exact sL_act_85 hlt C hr HL_low HL_type HL_does
  · refine k_iload_n hx hb dL_act_60 rfl ?_
    refine k_bipush hx hb dL_act_61 (by decide) ?_
    refine k_ishr hx hb dL_act_63 ?_
    refine k_bipush hx hb dL_act_64 (by decide) ?_
    refine k_cL C HL_low zlL_57 zsL_low ziL zwL_low (by decide +kernel) ⟨Nat.le_of_ble_eq_true rfl, Nat.le_of_ble_eq_true rfl⟩ ⟨Nat.le_of_ble_eq_true rfl, Nat.le_of_ble_eq_true rfl⟩ dL_act_66 ?_
    refine k_iconst hx hb dL_act_69 (by decide) ?_
    refine k_isub hx hb dL_act_70 ?_
    refine k_goto (tgt := 85) hx hb dL_act_71 (by decide) ?_
    exact sL_act_85 hlt C hr HL_low HL_type HL_does
set_option maxRecDepth 20000 in
theorem sL_act_17 {l : Launch} {z0 b : Nat} {D : va_G} {cA : Nat → ClassId} {p : Program} {e : Env} {s : State} {m : MethodId} {args : Array Value} {below : List Frame} {meth : Method} {c : Code} {Kn : QK} {i : Bool} (hlt : l.stackTraces = false) (C : zCx p l (zRm 9 3 183) s m args meth c cL_act 8 RL z0 D cA 0) (hr : meth.sig.returnType = (some .int)) (HL_low : SemL l z0 b D cA yL_low (Cond.code yL_low cL_low 2 (some .int)) 0 0 2 0 tL_low) (HL_type : SemL l z0 b D cA yL_type (Cond.codeWith yL_type cL_type 3 (some .int) [(0, 5, 6, 41), (0, 5, 10, 43)]) 7 103 2 1 tL_type) (HL_does : SemL l z0 b D cA yL_does (Cond.codeWith yL_does cL_does 6 (some .int) [(0, 129, 130, 38), (0, 129, 135, 41), (0, 129, 140, 43)]) 8 158 5 1 tL_does) : Snd p l e (zRm 9 3 183) s m args below meth c 8 z0 b (I2 z0 b D cA 0 s) (c2 0 0) (zQ2 below z0 b D cA Kn args s 3) 17 (bL_act_17 i Kn) := by
  obtain ⟨hx, hb, hml, hown, hts, -⟩ := id C
  unfold bL_act_17
  refine k_istore_n hx hb dL_act_17 rfl ?_
  refine k_iload_n hx hb dL_act_18 rfl ?_
  refine k_bipush hx hb dL_act_19 (by decide) ?_
  refine k_cL C HL_low zlL_57 zsL_low ziL zwL_low (by decide +kernel) ⟨Nat.le_of_ble_eq_true rfl, Nat.le_of_ble_eq_true rfl⟩ ⟨Nat.le_of_ble_eq_true rfl, Nat.le_of_ble_eq_true rfl⟩ dL_act_21 ?_
  refine k_istore_n hx hb dL_act_24 rfl ?_
  refine k_iload_n hx hb dL_act_25 rfl ?_
  refine k_if_eq (tgt := 43) hx hb dL_act_26 (by decide) ?_ ?_
  · refine k_iload_n hx hb dL_act_43 rfl ?_
    refine k_bipush hx hb dL_act_44 (by decide) ?_
    refine k_ishr hx hb dL_act_46 ?_
    refine k_aload_n hx hb dL_act_47 rfl ?_
    refine k_rd0 C (i := i) (MB := 3) (g := (fun μ => gTags μ)) (wp := w11) (fun z0 N => mX5_tags hlt) (fun σ μ h => sim_tags h) w11_n (fun μ => ro_tags) rfl zlL_63 zmX5_tags zvX5_tags ziX5 zcX5_tags (by decide +kernel) ⟨Nat.le_of_ble_eq_true rfl, Nat.le_of_ble_eq_true rfl⟩ ⟨Nat.le_of_ble_eq_true rfl, Nat.le_of_ble_eq_true rfl⟩ dL_act_48 ?_
    refine k_cL C HL_low zlL_57 zsL_low ziL zwL_low (by decide +kernel) ⟨Nat.le_of_ble_eq_true rfl, Nat.le_of_ble_eq_true rfl⟩ ⟨Nat.le_of_ble_eq_true rfl, Nat.le_of_ble_eq_true rfl⟩ dL_act_51 ?_
    exact sL_act_54 hlt C hr HL_low HL_type HL_does
  · refine k_iload_n hx hb dL_act_29 rfl ?_
    refine k_bipush hx hb dL_act_30 (by decide) ?_
    refine k_ishr hx hb dL_act_32 ?_
    refine k_bipush hx hb dL_act_33 (by decide) ?_
    refine k_cL C HL_low zlL_57 zsL_low ziL zwL_low (by decide +kernel) ⟨Nat.le_of_ble_eq_true rfl, Nat.le_of_ble_eq_true rfl⟩ ⟨Nat.le_of_ble_eq_true rfl, Nat.le_of_ble_eq_true rfl⟩ dL_act_35 ?_
    refine k_iconst hx hb dL_act_38 (by decide) ?_
    refine k_isub hx hb dL_act_39 ?_
    refine k_goto (tgt := 54) hx hb dL_act_40 (by decide) ?_
    exact sL_act_54 hlt C hr HL_low HL_type HL_does
set_option maxRecDepth 20000 in
theorem sL_act_0 {l : Launch} {z0 b : Nat} {D : va_G} {cA : Nat → ClassId} {p : Program} {e : Env} {s : State} {m : MethodId} {args : Array Value} {below : List Frame} {meth : Method} {c : Code} {Kn : QK} {i : Bool} (hlt : l.stackTraces = false) (C : zCx p l (zRm 9 3 183) s m args meth c cL_act 8 RL z0 D cA 0) (hr : meth.sig.returnType = (some .int)) (HL_low : SemL l z0 b D cA yL_low (Cond.code yL_low cL_low 2 (some .int)) 0 0 2 0 tL_low) (HL_type : SemL l z0 b D cA yL_type (Cond.codeWith yL_type cL_type 3 (some .int) [(0, 5, 6, 41), (0, 5, 10, 43)]) 7 103 2 1 tL_type) (HL_does : SemL l z0 b D cA yL_does (Cond.codeWith yL_does cL_does 6 (some .int) [(0, 129, 130, 38), (0, 129, 135, 41), (0, 129, 140, 43)]) 8 158 5 1 tL_does) : Snd p l e (zRm 9 3 183) s m args below meth c 8 z0 b (I2 z0 b D cA 0 s) (c2 0 0) (zQ2 below z0 b D cA Kn args s 3) 0 (bL_act_0 i Kn) := by
  obtain ⟨hx, hb, hml, hown, hts, -⟩ := id C
  unfold bL_act_0
  refine k_iload_n hx hb dL_act_0 rfl ?_
  refine k_bipush hx hb dL_act_1 (by decide) ?_
  refine k_ishr hx hb dL_act_3 ?_
  refine k_bipush hx hb dL_act_4 (by decide) ?_
  refine k_cL C HL_low zlL_57 zsL_low ziL zwL_low (by decide +kernel) ⟨Nat.le_of_ble_eq_true rfl, Nat.le_of_ble_eq_true rfl⟩ ⟨Nat.le_of_ble_eq_true rfl, Nat.le_of_ble_eq_true rfl⟩ dL_act_6 ?_
  refine k_if_ne (tgt := 16) hx hb dL_act_9 (by decide) ?_ ?_
  · refine k_iconst hx hb dL_act_16 (by decide) ?_
    exact sL_act_17 hlt C hr HL_low HL_type HL_does
  · refine k_iconst hx hb dL_act_12 (by decide) ?_
    refine k_goto (tgt := 17) hx hb dL_act_13 (by decide) ?_
    exact sL_act_17 hlt C hr HL_low HL_type HL_does
set_option maxRecDepth 20000 in
theorem uL_act {l : Launch} {z0 b : Nat} {D : va_G} {cA : Nat → ClassId} (hlt : l.stackTraces = false) (HL_low : SemL l z0 b D cA yL_low (Cond.code yL_low cL_low 2 (some .int)) 0 0 2 0 tL_low) (HL_type : SemL l z0 b D cA yL_type (Cond.codeWith yL_type cL_type 3 (some .int) [(0, 5, 6, 41), (0, 5, 10, 43)]) 7 103 2 1 tL_type) (HL_does : SemL l z0 b D cA yL_does (Cond.codeWith yL_does cL_does 6 (some .int) [(0, 129, 130, 38), (0, 129, 135, 41), (0, 129, 140, 43)]) 8 158 5 1 tL_does) (spec : ∀ (a : List Value) (μ ν : zMS) (Kn : QK), zok 2 a = true → tL_act a μ ν Kn → ∃ i : Bool, bL_act_0 i Kn (zE 8 a) [] (μ, ν, 0, 0)) : SemL l z0 b D cA yL_act (Cond.code yL_act cL_act 8 (some .int)) 9 183 2 3 tL_act := by
  refine semL_of hlt (by decide +kernel) (by decide) (fun p e s m args below meth c a μ ν Kn hok hN C hr => ?_)
  obtain ⟨i, hi⟩ := spec a μ ν Kn hok hN
  exact sL_act_0 (i := i) hlt C hr HL_low HL_type HL_does _ _ _ (hi)
