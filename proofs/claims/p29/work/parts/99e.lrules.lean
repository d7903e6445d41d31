def bL_areRulesSo_225 (i : Bool) (Kn : QK) (K4 K28 K132 : ZK QQ) : ZK QQ := (o_ret2 90 .boolean Kn)
def bL_areRulesSo_224 (i : Bool) (Kn : QK) (K4 K28 K132 : ZK QQ) : ZK QQ := (o_ic (0) (bL_areRulesSo_225 i Kn K4 K28 K132))
def bL_areRulesSo_210 (i : Bool) (Kn : QK) (K4 K28 K132 : ZK QQ) : ZK QQ := (o_iload 1 (o_if1 (fun x => x = 0) (bL_areRulesSo_224 i Kn K4 K28 K132) (o_iload 2 (o_ic (2) (o_irem (o_if1 (fun x => ¬ x = 0) (bL_areRulesSo_224 i Kn K4 K28 K132) (o_ic (1) (bL_areRulesSo_225 i Kn K4 K28 K132))))))))
def bL_areRulesSo_203 (i : Bool) (Kn : QK) (K4 K28 K132 : ZK QQ) : ZK QQ := (o_istore 1 (o_iinc 3 (1) K132))
def bL_areRulesSo_202 (i : Bool) (Kn : QK) (K4 K28 K132 : ZK QQ) : ZK QQ := (o_ic (0) (bL_areRulesSo_203 i Kn K4 K28 K132))
def bL_areRulesSo_198 (i : Bool) (Kn : QK) (K4 K28 K132 : ZK QQ) : ZK QQ := (o_ic (1) (bL_areRulesSo_203 i Kn K4 K28 K132))
def bL_areRulesSo_182 (i : Bool) (Kn : QK) (K4 K28 K132 : ZK QQ) : ZK QQ := (o_aload 0 (o_iload 3 (o_cL 2 1 90 tL_standing (o_if1 (fun x => x = 0) (bL_areRulesSo_198 i Kn K4 K28 K132) (o_aload 0 (o_iload 3 (o_rd1 i 90 (fun x0 μ => gCouldPass μ x0) (o_if1 (fun x => ¬ x = 0) (bL_areRulesSo_202 i Kn K4 K28 K132) (bL_areRulesSo_198 i Kn K4 K28 K132)))))))))
def bL_areRulesSo_132 (i : Bool) (Kn : QK) (K4 K28 K132 : ZK QQ) : ZK QQ := (o_iload 3 (o_ic (40) (o_if2 (fun x y => y ≤ x) (bL_areRulesSo_210 i Kn K4 K28 K132) (o_aload 0 (o_iload 3 (o_cL 2 1 90 tL_standing (o_ic (-99999) (o_if2 (fun x y => x = y) (bL_areRulesSo_210 i Kn K4 K28 K132) (o_iload 1 (o_if1 (fun x => x = 0) (bL_areRulesSo_210 i Kn K4 K28 K132) (o_aload 0 (o_iload 3 (o_rd1 i 90 (fun x0 μ => gClashes μ x0) (o_istore 4 (o_iload 2 (o_iload 4 (o_bin (fun x y => x + y) (o_istore 2 (o_iload 4 (o_if1 (fun x => x < 0) (bL_areRulesSo_202 i Kn K4 K28 K132) (o_aload 0 (o_iload 3 (o_rd1 i 90 (fun x0 μ => gCouldPass μ x0) (o_if1 (fun x => ¬ x = 0) (bL_areRulesSo_182 i Kn K4 K28 K132) (o_iload 4 (o_if1 (fun x => ¬ x = 0) (bL_areRulesSo_202 i Kn K4 K28 K132) (bL_areRulesSo_182 i Kn K4 K28 K132)))))))))))))))))))))))))))
def bL_areRulesSo_128 (i : Bool) (Kn : QK) (K4 K28 K132 : ZK QQ) : ZK QQ := (o_ic (0) (o_istore 2 (o_ic (0) (o_istore 3 K132))))
def bL_areRulesSo_121 (i : Bool) (Kn : QK) (K4 K28 K132 : ZK QQ) : ZK QQ := (o_istore 1 (o_iinc 2 (1) K4))
def bL_areRulesSo_120 (i : Bool) (Kn : QK) (K4 K28 K132 : ZK QQ) : ZK QQ := (o_ic (0) (bL_areRulesSo_121 i Kn K4 K28 K132))
def bL_areRulesSo_81 (i : Bool) (Kn : QK) (K4 K28 K132 : ZK QQ) : ZK QQ := (o_if2 (fun x y => ¬ x = y) (bL_areRulesSo_120 i Kn K4 K28 K132) (o_aload 0 (o_aload 0 (o_iload 2 (o_rd1 i 90 (fun x0 μ => gEnd μ x0) (o_rd1 i 90 (fun x0 μ => gAlias μ x0) (o_ic (-1) (o_if2 (fun x y => ¬ x = y) (bL_areRulesSo_120 i Kn K4 K28 K132) (o_aload 0 (o_iload 2 (o_rd1 i 90 (fun x0 μ => gUsers μ x0) (o_iload 4 (o_if2 (fun x y => ¬ x = y) (bL_areRulesSo_120 i Kn K4 K28 K132) (o_aload 0 (o_iload 2 (o_iload 2 (o_rd2 i 90 (fun x0 x1 μ => gImplies μ x0 x1) (o_if1 (fun x => ¬ x = 0) (bL_areRulesSo_120 i Kn K4 K28 K132) (o_ic (1) (bL_areRulesSo_121 i Kn K4 K28 K132))))))))))))))))))))
def bL_areRulesSo_28 (i : Bool) (Kn : QK) (K4 K28 K132 : ZK QQ) : ZK QQ := (o_iload 5 (o_aload 0 (o_rd0 i 90 (fun μ => gThings μ) (o_if2 (fun x y => y ≤ x) (o_iload 3 (o_iload 2 (o_if2 (fun x y => x = y) (bL_areRulesSo_120 i Kn K4 K28 K132) (o_aload 0 (o_iload 2 (o_rd1 i 90 (fun x0 μ => gEnd μ x0) (o_iload 3 (o_if1 (fun x => 0 ≤ x) (o_aload 0 (o_iload 3 (o_rd1 i 90 (fun x0 μ => gEnd μ x0) (bL_areRulesSo_81 i Kn K4 K28 K132)))) (o_iload 2 (bL_areRulesSo_81 i Kn K4 K28 K132)))))))))) (o_iload 4 (o_aload 0 (o_iload 5 (o_rd1 i 90 (fun x0 μ => gShown μ x0) (o_iload 2 (o_bin (fun x y => x >>> (y &&& 31)) (o_ic (1) (o_bin (fun x y => x &&& y) (o_bin (fun x y => x + y) (o_istore 4 (o_iinc 5 (1) K28)))))))))))))))
def bL_areRulesSo_4 (i : Bool) (Kn : QK) (K4 K28 K132 : ZK QQ) : ZK QQ := (o_iload 2 (o_aload 0 (o_rd0 i 90 (fun μ => gTags μ) (o_if2 (fun x y => y ≤ x) (bL_areRulesSo_128 i Kn K4 K28 K132) (o_iload 1 (o_if1 (fun x => x = 0) (bL_areRulesSo_128 i Kn K4 K28 K132) (o_aload 0 (o_iload 2 (o_rd1 i 90 (fun x0 μ => gAlias μ x0) (o_istore 3 (o_ic (0) (o_istore 4 (o_ic (0) (o_istore 5 K28))))))))))))))
def bL_areRulesSo_0 (i : Bool) (Kn : QK) (K4 K28 K132 : ZK QQ) : ZK QQ := (o_ic (1) (o_istore 1 (o_ic (0) (o_istore 2 K4))))
set_option maxRecDepth 20000 in
theorem sL_areRulesSo_225 {l : Launch} {z0 b : Nat} {D : va_G} {cA : Nat → ClassId} {p : Program} {e : Env} {s : State} {m : MethodId} {args : Array Value} {below : List Frame} {meth : Method} {c : Code} {Kn : QK} {K4 K28 K132 : ZK QQ} {i : Bool} (hlt : l.stackTraces = false) (C : zCx p l (zRm 9 90 158) s m args meth c cL_areRulesSo 6 RL z0 D cA 0) (hr : meth.sig.returnType = (some .boolean)) (HL_standing : SemL l z0 b D cA yL_standing (Cond.codeWith yL_standing cL_standing 3 (some .int) [(0, 5, 6, 38)]) 8 124 2 1 tL_standing) (hK4 : Snd p l e (zRm 9 90 158) s m args below meth c 6 z0 b (I2 z0 b D cA 0 s) (c2 0 0) (zQ2 below z0 b D cA Kn args s 90) 4 K4) (hK28 : Snd p l e (zRm 9 90 158) s m args below meth c 6 z0 b (I2 z0 b D cA 0 s) (c2 0 0) (zQ2 below z0 b D cA Kn args s 90) 28 K28) (hK132 : Snd p l e (zRm 9 90 158) s m args below meth c 6 z0 b (I2 z0 b D cA 0 s) (c2 0 0) (zQ2 below z0 b D cA Kn args s 90) 132 K132) : Snd p l e (zRm 9 90 158) s m args below meth c 6 z0 b (I2 z0 b D cA 0 s) (c2 0 0) (zQ2 below z0 b D cA Kn args s 90) 225 (bL_areRulesSo_225 i Kn K4 K28 K132) := by
  obtain ⟨hx, hb, hml, hown, hts, -⟩ := id C
  unfold bL_areRulesSo_225
  exact k_ret2 C hr dL_areRulesSo_225
set_option maxRecDepth 20000 in
theorem sL_areRulesSo_224 {l : Launch} {z0 b : Nat} {D : va_G} {cA : Nat → ClassId} {p : Program} {e : Env} {s : State} {m : MethodId} {args : Array Value} {below : List Frame} {meth : Method} {c : Code} {Kn : QK} {K4 K28 K132 : ZK QQ} {i : Bool} (hlt : l.stackTraces = false) (C : zCx p l (zRm 9 90 158) s m args meth c cL_areRulesSo 6 RL z0 D cA 0) (hr : meth.sig.returnType = (some .boolean)) (HL_standing : SemL l z0 b D cA yL_standing (Cond.codeWith yL_standing cL_standing 3 (some .int) [(0, 5, 6, 38)]) 8 124 2 1 tL_standing) (hK4 : Snd p l e (zRm 9 90 158) s m args below meth c 6 z0 b (I2 z0 b D cA 0 s) (c2 0 0) (zQ2 below z0 b D cA Kn args s 90) 4 K4) (hK28 : Snd p l e (zRm 9 90 158) s m args below meth c 6 z0 b (I2 z0 b D cA 0 s) (c2 0 0) (zQ2 below z0 b D cA Kn args s 90) 28 K28) (hK132 : Snd p l e (zRm 9 90 158) s m args below meth c 6 z0 b (I2 z0 b D cA 0 s) (c2 0 0) (zQ2 below z0 b D cA Kn args s 90) 132 K132) : Snd p l e (zRm 9 90 158) s m args below meth c 6 z0 b (I2 z0 b D cA 0 s) (c2 0 0) (zQ2 below z0 b D cA Kn args s 90) 224 (bL_areRulesSo_224 i Kn K4 K28 K132) := by
  obtain ⟨hx, hb, hml, hown, hts, -⟩ := id C
  unfold bL_areRulesSo_224
  refine k_iconst hx hb dL_areRulesSo_224 (by decide) ?_
  exact sL_areRulesSo_225 hlt C hr HL_standing hK4 hK28 hK132
set_option maxRecDepth 20000 in
theorem sL_areRulesSo_210 {l : Launch} {z0 b : Nat} {D : va_G} {cA : Nat → ClassId} {p : Program} {e : Env} {s : State} {m : MethodId} {args : Array Value} {below : List Frame} {meth : Method} {c : Code} {Kn : QK} {K4 K28 K132 : ZK QQ} {i : Bool} (hlt : l.stackTraces = false) (C : zCx p l (zRm 9 90 158) s m args meth c cL_areRulesSo 6 RL z0 D cA 0) (hr : meth.sig.returnType = (some .boolean)) (HL_standing : SemL l z0 b D cA yL_standing (Cond.codeWith yL_standing cL_standing 3 (some .int) [(0, 5, 6, 38)]) 8 124 2 1 tL_standing) (hK4 : Snd p l e (zRm 9 90 158) s m args below meth c 6 z0 b (I2 z0 b D cA 0 s) (c2 0 0) (zQ2 below z0 b D cA Kn args s 90) 4 K4) (hK28 : Snd p l e (zRm 9 90 158) s m args below meth c 6 z0 b (I2 z0 b D cA 0 s) (c2 0 0) (zQ2 below z0 b D cA Kn args s 90) 28 K28) (hK132 : Snd p l e (zRm 9 90 158) s m args below meth c 6 z0 b (I2 z0 b D cA 0 s) (c2 0 0) (zQ2 below z0 b D cA Kn args s 90) 132 K132) : Snd p l e (zRm 9 90 158) s m args below meth c 6 z0 b (I2 z0 b D cA 0 s) (c2 0 0) (zQ2 below z0 b D cA Kn args s 90) 210 (bL_areRulesSo_210 i Kn K4 K28 K132) := by
  obtain ⟨hx, hb, hml, hown, hts, -⟩ := id C
  unfold bL_areRulesSo_210
  refine k_iload_n hx hb dL_areRulesSo_210 rfl ?_
  refine k_if_eq (tgt := 224) hx hb dL_areRulesSo_211 (by decide) ?_ ?_
  · exact sL_areRulesSo_224 hlt C hr HL_standing hK4 hK28 hK132
  · refine k_iload_n hx hb dL_areRulesSo_214 rfl ?_
    refine k_iconst hx hb dL_areRulesSo_215 (by decide) ?_
    refine k_irem hx hb dL_areRulesSo_216 ?_
    refine k_if_ne (tgt := 224) hx hb dL_areRulesSo_217 (by decide) ?_ ?_
    · exact sL_areRulesSo_224 hlt C hr HL_standing hK4 hK28 hK132
    · refine k_iconst hx hb dL_areRulesSo_220 (by decide) ?_
      refine k_goto (tgt := 225) hx hb dL_areRulesSo_221 (by decide) ?_
      exact sL_areRulesSo_225 hlt C hr HL_standing hK4 hK28 hK132
set_option maxRecDepth 20000 in
theorem sL_areRulesSo_203 {l : Launch} {z0 b : Nat} {D : va_G} {cA : Nat → ClassId} {p : Program} {e : Env} {s : State} {m : MethodId} {args : Array Value} {below : List Frame} {meth : Method} {c : Code} {Kn : QK} {K4 K28 K132 : ZK QQ} {i : Bool} (hlt : l.stackTraces = false) (C : zCx p l (zRm 9 90 158) s m args meth c cL_areRulesSo 6 RL z0 D cA 0) (hr : meth.sig.returnType = (some .boolean)) (HL_standing : SemL l z0 b D cA yL_standing (Cond.codeWith yL_standing cL_standing 3 (some .int) [(0, 5, 6, 38)]) 8 124 2 1 tL_standing) (hK4 : Snd p l e (zRm 9 90 158) s m args below meth c 6 z0 b (I2 z0 b D cA 0 s) (c2 0 0) (zQ2 below z0 b D cA Kn args s 90) 4 K4) (hK28 : Snd p l e (zRm 9 90 158) s m args below meth c 6 z0 b (I2 z0 b D cA 0 s) (c2 0 0) (zQ2 below z0 b D cA Kn args s 90) 28 K28) (hK132 : Snd p l e (zRm 9 90 158) s m args below meth c 6 z0 b (I2 z0 b D cA 0 s) (c2 0 0) (zQ2 below z0 b D cA Kn args s 90) 132 K132) : Snd p l e (zRm 9 90 158) s m args below meth c 6 z0 b (I2 z0 b D cA 0 s) (c2 0 0) (zQ2 below z0 b D cA Kn args s 90) 203 (bL_areRulesSo_203 i Kn K4 K28 K132) := by
  obtain ⟨hx, hb, hml, hown, hts, -⟩ := id C
  unfold bL_areRulesSo_203
  refine k_istore_n hx hb dL_areRulesSo_203 rfl ?_
  refine k_iinc hx hb dL_areRulesSo_204 (by decide) ?_
  refine k_goto (tgt := 132) hx hb dL_areRulesSo_207 (by decide) ?_
  exact hK132
set_option maxRecDepth 20000 in
theorem sL_areRulesSo_202 {l : Launch} {z0 b : Nat} {D : va_G} {cA : Nat → ClassId} {p : Program} {e : Env} {s : State} {m : MethodId} {args : Array Value} {below : List Frame} {meth : Method} {c : Code} {Kn : QK} {K4 K28 K132 : ZK QQ} {i : Bool} (hlt : l.stackTraces = false) (C : zCx p l (zRm 9 90 158) s m args meth c cL_areRulesSo 6 RL z0 D cA 0) (hr : meth.sig.returnType = (some .boolean)) (HL_standing : SemL l z0 b D cA yL_standing (Cond.codeWith yL_standing cL_standing 3 (some .int) [(0, 5, 6, 38)]) 8 124 2 1 tL_standing) (hK4 : Snd p l e (zRm 9 90 158) s m args below meth c 6 z0 b (I2 z0 b D cA 0 s) (c2 0 0) (zQ2 below z0 b D cA Kn args s 90) 4 K4) (hK28 : Snd p l e (zRm 9 90 158) s m args below meth c 6 z0 b (I2 z0 b D cA 0 s) (c2 0 0) (zQ2 below z0 b D cA Kn args s 90) 28 K28) (hK132 : Snd p l e (zRm 9 90 158) s m args below meth c 6 z0 b (I2 z0 b D cA 0 s) (c2 0 0) (zQ2 below z0 b D cA Kn args s 90) 132 K132) : Snd p l e (zRm 9 90 158) s m args below meth c 6 z0 b (I2 z0 b D cA 0 s) (c2 0 0) (zQ2 below z0 b D cA Kn args s 90) 202 (bL_areRulesSo_202 i Kn K4 K28 K132) := by
  obtain ⟨hx, hb, hml, hown, hts, -⟩ := id C
  unfold bL_areRulesSo_202
  refine k_iconst hx hb dL_areRulesSo_202 (by decide) ?_
  exact sL_areRulesSo_203 hlt C hr HL_standing hK4 hK28 hK132
set_option maxRecDepth 20000 in
theorem sL_areRulesSo_198 {l : Launch} {z0 b : Nat} {D : va_G} {cA : Nat → ClassId} {p : Program} {e : Env} {s : State} {m : MethodId} {args : Array Value} {below : List Frame} {meth : Method} {c : Code} {Kn : QK} {K4 K28 K132 : ZK QQ} {i : Bool} (hlt : l.stackTraces = false) (C : zCx p l (zRm 9 90 158) s m args meth c cL_areRulesSo 6 RL z0 D cA 0) (hr : meth.sig.returnType = (some .boolean)) (HL_standing : SemL l z0 b D cA yL_standing (Cond.codeWith yL_standing cL_standing 3 (some .int) [(0, 5, 6, 38)]) 8 124 2 1 tL_standing) (hK4 : Snd p l e (zRm 9 90 158) s m args below meth c 6 z0 b (I2 z0 b D cA 0 s) (c2 0 0) (zQ2 below z0 b D cA Kn args s 90) 4 K4) (hK28 : Snd p l e (zRm 9 90 158) s m args below meth c 6 z0 b (I2 z0 b D cA 0 s) (c2 0 0) (zQ2 below z0 b D cA Kn args s 90) 28 K28) (hK132 : Snd p l e (zRm 9 90 158) s m args below meth c 6 z0 b (I2 z0 b D cA 0 s) (c2 0 0) (zQ2 below z0 b D cA Kn args s 90) 132 K132) : Snd p l e (zRm 9 90 158) s m args below meth c 6 z0 b (I2 z0 b D cA 0 s) (c2 0 0) (zQ2 below z0 b D cA Kn args s 90) 198 (bL_areRulesSo_198 i Kn K4 K28 K132) := by
  obtain ⟨hx, hb, hml, hown, hts, -⟩ := id C
  unfold bL_areRulesSo_198
  refine k_iconst hx hb dL_areRulesSo_198 (by decide) ?_
  refine k_goto (tgt := 203) hx hb dL_areRulesSo_199 (by decide) ?_
  exact sL_areRulesSo_203 hlt C hr HL_standing hK4 hK28 hK132
set_option maxRecDepth 20000 in
theorem sL_areRulesSo_182 {l : Launch} {z0 b : Nat} {D : va_G} {cA : Nat → ClassId} {p : Program} {e : Env} {s : State} {m : MethodId} {args : Array Value} {below : List Frame} {meth : Method} {c : Code} {Kn : QK} {K4 K28 K132 : ZK QQ} {i : Bool} (hlt : l.stackTraces = false) (C : zCx p l (zRm 9 90 158) s m args meth c cL_areRulesSo 6 RL z0 D cA 0) (hr : meth.sig.returnType = (some .boolean)) (HL_standing : SemL l z0 b D cA yL_standing (Cond.codeWith yL_standing cL_standing 3 (some .int) [(0, 5, 6, 38)]) 8 124 2 1 tL_standing) (hK4 : Snd p l e (zRm 9 90 158) s m args below meth c 6 z0 b (I2 z0 b D cA 0 s) (c2 0 0) (zQ2 below z0 b D cA Kn args s 90) 4 K4) (hK28 : Snd p l e (zRm 9 90 158) s m args below meth c 6 z0 b (I2 z0 b D cA 0 s) (c2 0 0) (zQ2 below z0 b D cA Kn args s 90) 28 K28) (hK132 : Snd p l e (zRm 9 90 158) s m args below meth c 6 z0 b (I2 z0 b D cA 0 s) (c2 0 0) (zQ2 below z0 b D cA Kn args s 90) 132 K132) : Snd p l e (zRm 9 90 158) s m args below meth c 6 z0 b (I2 z0 b D cA 0 s) (c2 0 0) (zQ2 below z0 b D cA Kn args s 90) 182 (bL_areRulesSo_182 i Kn K4 K28 K132) := by
  obtain ⟨hx, hb, hml, hown, hts, -⟩ := id C
  unfold bL_areRulesSo_182
  refine k_aload_n hx hb dL_areRulesSo_182 rfl ?_
  refine k_iload_n hx hb dL_areRulesSo_183 rfl ?_
  refine k_cLW C HL_standing zlL_96 zsL_standing ziL zwL_standing (by decide +kernel) ⟨Nat.le_of_ble_eq_true rfl, Nat.le_of_ble_eq_true rfl⟩ ⟨Nat.le_of_ble_eq_true rfl, Nat.le_of_ble_eq_true rfl⟩ dL_areRulesSo_184 ?_
  refine k_if_eq (tgt := 198) hx hb dL_areRulesSo_187 (by decide) ?_ ?_
  · exact sL_areRulesSo_198 hlt C hr HL_standing hK4 hK28 hK132
  · refine k_aload_n hx hb dL_areRulesSo_190 rfl ?_
    refine k_iload_n hx hb dL_areRulesSo_191 rfl ?_
    refine k_rd1 C (i := i) (MB := 90) (g := (fun x0 μ => gCouldPass μ x0)) (wp := w21) (fun z0 N => mX5_couldPass hlt) (fun x0 σ μ h => sim_couldPass h) w21_n (fun x0 μ => ro_couldPass) rfl zlL_114 zmX5_couldPass zvX5_couldPass ziX5 zcX5_couldPass (by decide +kernel) ⟨Nat.le_of_ble_eq_true rfl, Nat.le_of_ble_eq_true rfl⟩ ⟨Nat.le_of_ble_eq_true rfl, Nat.le_of_ble_eq_true rfl⟩ dL_areRulesSo_192 ?_
    refine k_if_ne (tgt := 202) hx hb dL_areRulesSo_195 (by decide) ?_ ?_
    · exact sL_areRulesSo_202 hlt C hr HL_standing hK4 hK28 hK132
    · exact sL_areRulesSo_198 hlt C hr HL_standing hK4 hK28 hK132
set_option maxRecDepth 20000 in
theorem sL_areRulesSo_132 {l : Launch} {z0 b : Nat} {D : va_G} {cA : Nat → ClassId} {p : Program} {e : Env} {s : State} {m : MethodId} {args : Array Value} {below : List Frame} {meth : Method} {c : Code} {Kn : QK} {K4 K28 K132 : ZK QQ} {i : Bool} (hlt : l.stackTraces = false) (C : zCx p l (zRm 9 90 158) s m args meth c cL_areRulesSo 6 RL z0 D cA 0) (hr : meth.sig.returnType = (some .boolean)) (HL_standing : SemL l z0 b D cA yL_standing (Cond.codeWith yL_standing cL_standing 3 (some .int) [(0, 5, 6, 38)]) 8 124 2 1 tL_standing) (hK4 : Snd p l e (zRm 9 90 158) s m args below meth c 6 z0 b (I2 z0 b D cA 0 s) (c2 0 0) (zQ2 below z0 b D cA Kn args s 90) 4 K4) (hK28 : Snd p l e (zRm 9 90 158) s m args below meth c 6 z0 b (I2 z0 b D cA 0 s) (c2 0 0) (zQ2 below z0 b D cA Kn args s 90) 28 K28) (hK132 : Snd p l e (zRm 9 90 158) s m args below meth c 6 z0 b (I2 z0 b D cA 0 s) (c2 0 0) (zQ2 below z0 b D cA Kn args s 90) 132 K132) : Snd p l e (zRm 9 90 158) s m args below meth c 6 z0 b (I2 z0 b D cA 0 s) (c2 0 0) (zQ2 below z0 b D cA Kn args s 90) 132 (bL_areRulesSo_132 i Kn K4 K28 K132) := by
  obtain ⟨hx, hb, hml, hown, hts, -⟩ := id C
  unfold bL_areRulesSo_132
  refine k_iload_n hx hb dL_areRulesSo_132 rfl ?_
  refine k_bipush hx hb dL_areRulesSo_133 (by decide) ?_
  refine k_icmp_ge (tgt := 210) hx hb dL_areRulesSo_135 (by decide) ?_ ?_
  · exact sL_areRulesSo_210 hlt C hr HL_standing hK4 hK28 hK132
  · refine k_aload_n hx hb dL_areRulesSo_138 rfl ?_
    refine k_iload_n hx hb dL_areRulesSo_139 rfl ?_
    refine k_cLW C HL_standing zlL_96 zsL_standing ziL zwL_standing (by decide +kernel) ⟨Nat.le_of_ble_eq_true rfl, Nat.le_of_ble_eq_true rfl⟩ ⟨Nat.le_of_ble_eq_true rfl, Nat.le_of_ble_eq_true rfl⟩ dL_areRulesSo_140 ?_
    refine k_ldc hx hb hown (hts _ zkL_40) dL_areRulesSo_143 ?_
    refine k_icmp_eq (tgt := 210) hx hb dL_areRulesSo_145 (by decide) ?_ ?_
    · exact sL_areRulesSo_210 hlt C hr HL_standing hK4 hK28 hK132
    · refine k_iload_n hx hb dL_areRulesSo_148 rfl ?_
      refine k_if_eq (tgt := 210) hx hb dL_areRulesSo_149 (by decide) ?_ ?_
      · exact sL_areRulesSo_210 hlt C hr HL_standing hK4 hK28 hK132
      · refine k_aload_n hx hb dL_areRulesSo_152 rfl ?_
        refine k_iload_n hx hb dL_areRulesSo_153 rfl ?_
        refine k_rd1 C (i := i) (MB := 90) (g := (fun x0 μ => gClashes μ x0)) (wp := w21) (fun z0 N => mX5_clashes hlt) (fun x0 σ μ h => sim_clashes h) w21_n (fun x0 μ => ro_clashes) rfl zlL_111 zmX5_clashes zvX5_clashes ziX5 zcX5_clashes (by decide +kernel) ⟨Nat.le_of_ble_eq_true rfl, Nat.le_of_ble_eq_true rfl⟩ ⟨Nat.le_of_ble_eq_true rfl, Nat.le_of_ble_eq_true rfl⟩ dL_areRulesSo_154 ?_
        refine k_istore hx hb dL_areRulesSo_157 ?_
        refine k_iload_n hx hb dL_areRulesSo_159 rfl ?_
        refine k_iload hx hb dL_areRulesSo_160 ?_
        refine k_iadd hx hb dL_areRulesSo_162 ?_
        refine k_istore_n hx hb dL_areRulesSo_163 rfl ?_
        refine k_iload hx hb dL_areRulesSo_164 ?_
        refine k_if_lt (tgt := 202) hx hb dL_areRulesSo_166 (by decide) ?_ ?_
        · exact sL_areRulesSo_202 hlt C hr HL_standing hK4 hK28 hK132
        · refine k_aload_n hx hb dL_areRulesSo_169 rfl ?_
          refine k_iload_n hx hb dL_areRulesSo_170 rfl ?_
          refine k_rd1 C (i := i) (MB := 90) (g := (fun x0 μ => gCouldPass μ x0)) (wp := w21) (fun z0 N => mX5_couldPass hlt) (fun x0 σ μ h => sim_couldPass h) w21_n (fun x0 μ => ro_couldPass) rfl zlL_114 zmX5_couldPass zvX5_couldPass ziX5 zcX5_couldPass (by decide +kernel) ⟨Nat.le_of_ble_eq_true rfl, Nat.le_of_ble_eq_true rfl⟩ ⟨Nat.le_of_ble_eq_true rfl, Nat.le_of_ble_eq_true rfl⟩ dL_areRulesSo_171 ?_
          refine k_if_ne (tgt := 182) hx hb dL_areRulesSo_174 (by decide) ?_ ?_
          · exact sL_areRulesSo_182 hlt C hr HL_standing hK4 hK28 hK132
          · refine k_iload hx hb dL_areRulesSo_177 ?_
            refine k_if_ne (tgt := 202) hx hb dL_areRulesSo_179 (by decide) ?_ ?_
            · exact sL_areRulesSo_202 hlt C hr HL_standing hK4 hK28 hK132
            · exact sL_areRulesSo_182 hlt C hr HL_standing hK4 hK28 hK132
set_option maxRecDepth 20000 in
theorem sL_areRulesSo_128 {l : Launch} {z0 b : Nat} {D : va_G} {cA : Nat → ClassId} {p : Program} {e : Env} {s : State} {m : MethodId} {args : Array Value} {below : List Frame} {meth : Method} {c : Code} {Kn : QK} {K4 K28 K132 : ZK QQ} {i : Bool} (hlt : l.stackTraces = false) (C : zCx p l (zRm 9 90 158) s m args meth c cL_areRulesSo 6 RL z0 D cA 0) (hr : meth.sig.returnType = (some .boolean)) (HL_standing : SemL l z0 b D cA yL_standing (Cond.codeWith yL_standing cL_standing 3 (some .int) [(0, 5, 6, 38)]) 8 124 2 1 tL_standing) (hK4 : Snd p l e (zRm 9 90 158) s m args below meth c 6 z0 b (I2 z0 b D cA 0 s) (c2 0 0) (zQ2 below z0 b D cA Kn args s 90) 4 K4) (hK28 : Snd p l e (zRm 9 90 158) s m args below meth c 6 z0 b (I2 z0 b D cA 0 s) (c2 0 0) (zQ2 below z0 b D cA Kn args s 90) 28 K28) (hK132 : Snd p l e (zRm 9 90 158) s m args below meth c 6 z0 b (I2 z0 b D cA 0 s) (c2 0 0) (zQ2 below z0 b D cA Kn args s 90) 132 K132) : Snd p l e (zRm 9 90 158) s m args below meth c 6 z0 b (I2 z0 b D cA 0 s) (c2 0 0) (zQ2 below z0 b D cA Kn args s 90) 128 (bL_areRulesSo_128 i Kn K4 K28 K132) := by
  obtain ⟨hx, hb, hml, hown, hts, -⟩ := id C
  unfold bL_areRulesSo_128
  refine k_iconst hx hb dL_areRulesSo_128 (by decide) ?_
  refine k_istore_n hx hb dL_areRulesSo_129 rfl ?_
  refine k_iconst hx hb dL_areRulesSo_130 (by decide) ?_
  refine k_istore_n hx hb dL_areRulesSo_131 rfl ?_
  exact hK132
set_option maxRecDepth 20000 in
theorem sL_areRulesSo_121 {l : Launch} {z0 b : Nat} {D : va_G} {cA : Nat → ClassId} {p : Program} {e : Env} {s : State} {m : MethodId} {args : Array Value} {below : List Frame} {meth : Method} {c : Code} {Kn : QK} {K4 K28 K132 : ZK QQ} {i : Bool} (hlt : l.stackTraces = false) (C : zCx p l (zRm 9 90 158) s m args meth c cL_areRulesSo 6 RL z0 D cA 0) (hr : meth.sig.returnType = (some .boolean)) (HL_standing : SemL l z0 b D cA yL_standing (Cond.codeWith yL_standing cL_standing 3 (some .int) [(0, 5, 6, 38)]) 8 124 2 1 tL_standing) (hK4 : Snd p l e (zRm 9 90 158) s m args below meth c 6 z0 b (I2 z0 b D cA 0 s) (c2 0 0) (zQ2 below z0 b D cA Kn args s 90) 4 K4) (hK28 : Snd p l e (zRm 9 90 158) s m args below meth c 6 z0 b (I2 z0 b D cA 0 s) (c2 0 0) (zQ2 below z0 b D cA Kn args s 90) 28 K28) (hK132 : Snd p l e (zRm 9 90 158) s m args below meth c 6 z0 b (I2 z0 b D cA 0 s) (c2 0 0) (zQ2 below z0 b D cA Kn args s 90) 132 K132) : Snd p l e (zRm 9 90 158) s m args below meth c 6 z0 b (I2 z0 b D cA 0 s) (c2 0 0) (zQ2 below z0 b D cA Kn args s 90) 121 (bL_areRulesSo_121 i Kn K4 K28 K132) := by
  obtain ⟨hx, hb, hml, hown, hts, -⟩ := id C
  unfold bL_areRulesSo_121
  refine k_istore_n hx hb dL_areRulesSo_121 rfl ?_
  refine k_iinc hx hb dL_areRulesSo_122 (by decide) ?_
  refine k_goto (tgt := 4) hx hb dL_areRulesSo_125 (by decide) ?_
  exact hK4
set_option maxRecDepth 20000 in
theorem sL_areRulesSo_120 {l : Launch} {z0 b : Nat} {D : va_G} {cA : Nat → ClassId} {p : Program} {e : Env} {s : State} {m : MethodId} {args : Array Value} {below : List Frame} {meth : Method} {c : Code} {Kn : QK} {K4 K28 K132 : ZK QQ} {i : Bool} (hlt : l.stackTraces = false) (C : zCx p l (zRm 9 90 158) s m args meth c cL_areRulesSo 6 RL z0 D cA 0) (hr : meth.sig.returnType = (some .boolean)) (HL_standing : SemL l z0 b D cA yL_standing (Cond.codeWith yL_standing cL_standing 3 (some .int) [(0, 5, 6, 38)]) 8 124 2 1 tL_standing) (hK4 : Snd p l e (zRm 9 90 158) s m args below meth c 6 z0 b (I2 z0 b D cA 0 s) (c2 0 0) (zQ2 below z0 b D cA Kn args s 90) 4 K4) (hK28 : Snd p l e (zRm 9 90 158) s m args below meth c 6 z0 b (I2 z0 b D cA 0 s) (c2 0 0) (zQ2 below z0 b D cA Kn args s 90) 28 K28) (hK132 : Snd p l e (zRm 9 90 158) s m args below meth c 6 z0 b (I2 z0 b D cA 0 s) (c2 0 0) (zQ2 below z0 b D cA Kn args s 90) 132 K132) : Snd p l e (zRm 9 90 158) s m args below meth c 6 z0 b (I2 z0 b D cA 0 s) (c2 0 0) (zQ2 below z0 b D cA Kn args s 90) 120 (bL_areRulesSo_120 i Kn K4 K28 K132) := by
  obtain ⟨hx, hb, hml, hown, hts, -⟩ := id C
  unfold bL_areRulesSo_120
  refine k_iconst hx hb dL_areRulesSo_120 (by decide) ?_
  exact sL_areRulesSo_121 hlt C hr HL_standing hK4 hK28 hK132
set_option maxRecDepth 20000 in
theorem sL_areRulesSo_81 {l : Launch} {z0 b : Nat} {D : va_G} {cA : Nat → ClassId} {p : Program} {e : Env} {s : State} {m : MethodId} {args : Array Value} {below : List Frame} {meth : Method} {c : Code} {Kn : QK} {K4 K28 K132 : ZK QQ} {i : Bool} (hlt : l.stackTraces = false) (C : zCx p l (zRm 9 90 158) s m args meth c cL_areRulesSo 6 RL z0 D cA 0) (hr : meth.sig.returnType = (some .boolean)) (HL_standing : SemL l z0 b D cA yL_standing (Cond.codeWith yL_standing cL_standing 3 (some .int) [(0, 5, 6, 38)]) 8 124 2 1 tL_standing) (hK4 : Snd p l e (zRm 9 90 158) s m args below meth c 6 z0 b (I2 z0 b D cA 0 s) (c2 0 0) (zQ2 below z0 b D cA Kn args s 90) 4 K4) (hK28 : Snd p l e (zRm 9 90 158) s m args below meth c 6 z0 b (I2 z0 b D cA 0 s) (c2 0 0) (zQ2 below z0 b D cA Kn args s 90) 28 K28) (hK132 : Snd p l e (zRm 9 90 158) s m args below meth c 6 z0 b (I2 z0 b D cA 0 s) (c2 0 0) (zQ2 below z0 b D cA Kn args s 90) 132 K132) : Snd p l e (zRm 9 90 158) s m args below meth c 6 z0 b (I2 z0 b D cA 0 s) (c2 0 0) (zQ2 below z0 b D cA Kn args s 90) 81 (bL_areRulesSo_81 i Kn K4 K28 K132) := by
  obtain ⟨hx, hb, hml, hown, hts, -⟩ := id C
  unfold bL_areRulesSo_81
  refine k_icmp_ne (tgt := 120) hx hb dL_areRulesSo_81 (by decide) ?_ ?_
  · exact sL_areRulesSo_120 hlt C hr HL_standing hK4 hK28 hK132
  · refine k_aload_n hx hb dL_areRulesSo_84 rfl ?_
    refine k_aload_n hx hb dL_areRulesSo_85 rfl ?_
    refine k_iload_n hx hb dL_areRulesSo_86 rfl ?_
    refine k_rd1 C (i := i) (MB := 90) (g := (fun x0 μ => gEnd μ x0)) (wp := w21) (fun z0 N => mX5_end hlt) (fun x0 σ μ h => sim_end h) w21_n (fun x0 μ => ro_end) rfl zlL_105 zmX5_end zvX5_end ziX5 zcX5_end (by decide +kernel) ⟨Nat.le_of_ble_eq_true rfl, Nat.le_of_ble_eq_true rfl⟩ ⟨Nat.le_of_ble_eq_true rfl, Nat.le_of_ble_eq_true rfl⟩ dL_areRulesSo_87 ?_
    refine k_rd1 C (i := i) (MB := 90) (g := (fun x0 μ => gAlias μ x0)) (wp := w21) (fun z0 N => mX5_alias hlt) (fun x0 σ μ h => sim_alias h) w21_n (fun x0 μ => ro_alias) rfl zlL_80 zmX5_alias zvX5_alias ziX5 zcX5_alias (by decide +kernel) ⟨Nat.le_of_ble_eq_true rfl, Nat.le_of_ble_eq_true rfl⟩ ⟨Nat.le_of_ble_eq_true rfl, Nat.le_of_ble_eq_true rfl⟩ dL_areRulesSo_90 ?_
    refine k_iconst hx hb dL_areRulesSo_93 (by decide) ?_
    refine k_icmp_ne (tgt := 120) hx hb dL_areRulesSo_94 (by decide) ?_ ?_
    · exact sL_areRulesSo_120 hlt C hr HL_standing hK4 hK28 hK132
    · refine k_aload_n hx hb dL_areRulesSo_97 rfl ?_
      refine k_iload_n hx hb dL_areRulesSo_98 rfl ?_
      refine k_rd1 C (i := i) (MB := 90) (g := (fun x0 μ => gUsers μ x0)) (wp := w21) (fun z0 N => mX5_users hlt) (fun x0 σ μ h => sim_users h) w21_n (fun x0 μ => ro_users) rfl zlL_83 zmX5_users zvX5_users ziX5 zcX5_users (by decide +kernel) ⟨Nat.le_of_ble_eq_true rfl, Nat.le_of_ble_eq_true rfl⟩ ⟨Nat.le_of_ble_eq_true rfl, Nat.le_of_ble_eq_true rfl⟩ dL_areRulesSo_99 ?_
      refine k_iload hx hb dL_areRulesSo_102 ?_
      refine k_icmp_ne (tgt := 120) hx hb dL_areRulesSo_104 (by decide) ?_ ?_
      · exact sL_areRulesSo_120 hlt C hr HL_standing hK4 hK28 hK132
      · refine k_aload_n hx hb dL_areRulesSo_107 rfl ?_
        refine k_iload_n hx hb dL_areRulesSo_108 rfl ?_
        refine k_iload_n hx hb dL_areRulesSo_109 rfl ?_
        refine k_rd2 C (i := i) (MB := 90) (g := (fun x0 x1 μ => gImplies μ x0 x1)) (wp := w21) (fun z0 N => mX5_implies hlt) (fun x0 x1 σ μ h => sim_implies h) w21_n (fun x0 x1 μ => ro_implies) rfl zlL_108 zmX5_implies zvX5_implies ziX5 zcX5_implies (by decide +kernel) ⟨Nat.le_of_ble_eq_true rfl, Nat.le_of_ble_eq_true rfl⟩ ⟨Nat.le_of_ble_eq_true rfl, Nat.le_of_ble_eq_true rfl⟩ dL_areRulesSo_110 ?_
        refine k_if_ne (tgt := 120) hx hb dL_areRulesSo_113 (by decide) ?_ ?_
        · exact sL_areRulesSo_120 hlt C hr HL_standing hK4 hK28 hK132
        · refine k_iconst hx hb dL_areRulesSo_116 (by decide) ?_
          refine k_goto (tgt := 121) hx hb dL_areRulesSo_117 (by decide) ?_
          exact sL_areRulesSo_121 hlt C hr HL_standing hK4 hK28 hK132
set_option maxRecDepth 20000 in
theorem sL_areRulesSo_28 {l : Launch} {z0 b : Nat} {D : va_G} {cA : Nat → ClassId} {p : Program} {e : Env} {s : State} {m : MethodId} {args : Array Value} {below : List Frame} {meth : Method} {c : Code} {Kn : QK} {K4 K28 K132 : ZK QQ} {i : Bool} (hlt : l.stackTraces = false) (C : zCx p l (zRm 9 90 158) s m args meth c cL_areRulesSo 6 RL z0 D cA 0) (hr : meth.sig.returnType = (some .boolean)) (HL_standing : SemL l z0 b D cA yL_standing (Cond.codeWith yL_standing cL_standing 3 (some .int) [(0, 5, 6, 38)]) 8 124 2 1 tL_standing) (hK4 : Snd p l e (zRm 9 90 158) s m args below meth c 6 z0 b (I2 z0 b D cA 0 s) (c2 0 0) (zQ2 below z0 b D cA Kn args s 90) 4 K4) (hK28 : Snd p l e (zRm 9 90 158) s m args below meth c 6 z0 b (I2 z0 b D cA 0 s) (c2 0 0) (zQ2 below z0 b D cA Kn args s 90) 28 K28) (hK132 : Snd p l e (zRm 9 90 158) s m args below meth c 6 z0 b (I2 z0 b D cA 0 s) (c2 0 0) (zQ2 below z0 b D cA Kn args s 90) 132 K132) : Snd p l e (zRm 9 90 158) s m args below meth c 6 z0 b (I2 z0 b D cA 0 s) (c2 0 0) (zQ2 below z0 b D cA Kn args s 90) 28 (bL_areRulesSo_28 i Kn K4 K28 K132) := by
  obtain ⟨hx, hb, hml, hown, hts, -⟩ := id C
  unfold bL_areRulesSo_28
  refine k_iload hx hb dL_areRulesSo_28 ?_
  refine k_aload_n hx hb dL_areRulesSo_30 rfl ?_
  refine k_rd0 C (i := i) (MB := 90) (g := (fun μ => gThings μ)) (wp := w11) (fun z0 N => mX5_things hlt) (fun σ μ h => sim_things h) w11_n (fun μ => ro_things) rfl zlL_73 zmX5_things zvX5_things ziX5 zcX5_things (by decide +kernel) ⟨Nat.le_of_ble_eq_true rfl, Nat.le_of_ble_eq_true rfl⟩ ⟨Nat.le_of_ble_eq_true rfl, Nat.le_of_ble_eq_true rfl⟩ dL_areRulesSo_31 ?_
  refine k_icmp_ge (tgt := 58) hx hb dL_areRulesSo_34 (by decide) ?_ ?_
  · refine k_iload_n hx hb dL_areRulesSo_58 rfl ?_
    refine k_iload_n hx hb dL_areRulesSo_59 rfl ?_
    refine k_icmp_eq (tgt := 120) hx hb dL_areRulesSo_60 (by decide) ?_ ?_
    · exact sL_areRulesSo_120 hlt C hr HL_standing hK4 hK28 hK132
    · refine k_aload_n hx hb dL_areRulesSo_63 rfl ?_
      refine k_iload_n hx hb dL_areRulesSo_64 rfl ?_
      refine k_rd1 C (i := i) (MB := 90) (g := (fun x0 μ => gEnd μ x0)) (wp := w21) (fun z0 N => mX5_end hlt) (fun x0 σ μ h => sim_end h) w21_n (fun x0 μ => ro_end) rfl zlL_105 zmX5_end zvX5_end ziX5 zcX5_end (by decide +kernel) ⟨Nat.le_of_ble_eq_true rfl, Nat.le_of_ble_eq_true rfl⟩ ⟨Nat.le_of_ble_eq_true rfl, Nat.le_of_ble_eq_true rfl⟩ dL_areRulesSo_65 ?_
      refine k_iload_n hx hb dL_areRulesSo_68 rfl ?_
      refine k_if_ge (tgt := 76) hx hb dL_areRulesSo_69 (by decide) ?_ ?_
      · refine k_aload_n hx hb dL_areRulesSo_76 rfl ?_
        refine k_iload_n hx hb dL_areRulesSo_77 rfl ?_
        refine k_rd1 C (i := i) (MB := 90) (g := (fun x0 μ => gEnd μ x0)) (wp := w21) (fun z0 N => mX5_end hlt) (fun x0 σ μ h => sim_end h) w21_n (fun x0 μ => ro_end) rfl zlL_105 zmX5_end zvX5_end ziX5 zcX5_end (by decide +kernel) ⟨Nat.le_of_ble_eq_true rfl, Nat.le_of_ble_eq_true rfl⟩ ⟨Nat.le_of_ble_eq_true rfl, Nat.le_of_ble_eq_true rfl⟩ dL_areRulesSo_78 ?_
        exact sL_areRulesSo_81 hlt C hr HL_standing hK4 hK28 hK132
      · refine k_iload_n hx hb dL_areRulesSo_72 rfl ?_
        refine k_goto (tgt := 81) hx hb dL_areRulesSo_73 (by decide) ?_
        exact sL_areRulesSo_81 hlt C hr HL_standing hK4 hK28 hK132
  · refine k_iload hx hb dL_areRulesSo_37 ?_
    refine k_aload_n hx hb dL_areRulesSo_39 rfl ?_
    refine k_iload hx hb dL_areRulesSo_40 ?_
    refine k_rd1 C (i := i) (MB := 90) (g := (fun x0 μ => gShown μ x0)) (wp := w21) (fun z0 N => mX5_shown hlt) (fun x0 σ μ h => sim_shown h) w21_n (fun x0 μ => ro_shown) rfl zlL_93 zmX5_shown zvX5_shown ziX5 zcX5_shown (by decide +kernel) ⟨Nat.le_of_ble_eq_true rfl, Nat.le_of_ble_eq_true rfl⟩ ⟨Nat.le_of_ble_eq_true rfl, Nat.le_of_ble_eq_true rfl⟩ dL_areRulesSo_42 ?_
    refine k_iload_n hx hb dL_areRulesSo_45 rfl ?_
    refine k_ishr hx hb dL_areRulesSo_46 ?_
    refine k_iconst hx hb dL_areRulesSo_47 (by decide) ?_
    refine k_iand hx hb dL_areRulesSo_48 ?_
    refine k_iadd hx hb dL_areRulesSo_49 ?_
    refine k_istore hx hb dL_areRulesSo_50 ?_
    refine k_iinc hx hb dL_areRulesSo_52 (by decide) ?_
    refine k_goto (tgt := 28) hx hb dL_areRulesSo_55 (by decide) ?_
    exact hK28
set_option maxRecDepth 20000 in
theorem sL_areRulesSo_4 {l : Launch} {z0 b : Nat} {D : va_G} {cA : Nat → ClassId} {p : Program} {e : Env} {s : State} {m : MethodId} {args : Array Value} {below : List Frame} {meth : Method} {c : Code} {Kn : QK} {K4 K28 K132 : ZK QQ} {i : Bool} (hlt : l.stackTraces = false) (C : zCx p l (zRm 9 90 158) s m args meth c cL_areRulesSo 6 RL z0 D cA 0) (hr : meth.sig.returnType = (some .boolean)) (HL_standing : SemL l z0 b D cA yL_standing (Cond.codeWith yL_standing cL_standing 3 (some .int) [(0, 5, 6, 38)]) 8 124 2 1 tL_standing) (hK4 : Snd p l e (zRm 9 90 158) s m args below meth c 6 z0 b (I2 z0 b D cA 0 s) (c2 0 0) (zQ2 below z0 b D cA Kn args s 90) 4 K4) (hK28 : Snd p l e (zRm 9 90 158) s m args below meth c 6 z0 b (I2 z0 b D cA 0 s) (c2 0 0) (zQ2 below z0 b D cA Kn args s 90) 28 K28) (hK132 : Snd p l e (zRm 9 90 158) s m args below meth c 6 z0 b (I2 z0 b D cA 0 s) (c2 0 0) (zQ2 below z0 b D cA Kn args s 90) 132 K132) : Snd p l e (zRm 9 90 158) s m args below meth c 6 z0 b (I2 z0 b D cA 0 s) (c2 0 0) (zQ2 below z0 b D cA Kn args s 90) 4 (bL_areRulesSo_4 i Kn K4 K28 K132) := by
  obtain ⟨hx, hb, hml, hown, hts, -⟩ := id C
  unfold bL_areRulesSo_4
  refine k_iload_n hx hb dL_areRulesSo_4 rfl ?_
  refine k_aload_n hx hb dL_areRulesSo_5 rfl ?_
  refine k_rd0 C (i := i) (MB := 90) (g := (fun μ => gTags μ)) (wp := w11) (fun z0 N => mX5_tags hlt) (fun σ μ h => sim_tags h) w11_n (fun μ => ro_tags) rfl zlL_63 zmX5_tags zvX5_tags ziX5 zcX5_tags (by decide +kernel) ⟨Nat.le_of_ble_eq_true rfl, Nat.le_of_ble_eq_true rfl⟩ ⟨Nat.le_of_ble_eq_true rfl, Nat.le_of_ble_eq_true rfl⟩ dL_areRulesSo_6 ?_
  refine k_icmp_ge (tgt := 128) hx hb dL_areRulesSo_9 (by decide) ?_ ?_
  · exact sL_areRulesSo_128 hlt C hr HL_standing hK4 hK28 hK132
  · refine k_iload_n hx hb dL_areRulesSo_12 rfl ?_
    refine k_if_eq (tgt := 128) hx hb dL_areRulesSo_13 (by decide) ?_ ?_
    · exact sL_areRulesSo_128 hlt C hr HL_standing hK4 hK28 hK132
    · refine k_aload_n hx hb dL_areRulesSo_16 rfl ?_
      refine k_iload_n hx hb dL_areRulesSo_17 rfl ?_
      refine k_rd1 C (i := i) (MB := 90) (g := (fun x0 μ => gAlias μ x0)) (wp := w21) (fun z0 N => mX5_alias hlt) (fun x0 σ μ h => sim_alias h) w21_n (fun x0 μ => ro_alias) rfl zlL_80 zmX5_alias zvX5_alias ziX5 zcX5_alias (by decide +kernel) ⟨Nat.le_of_ble_eq_true rfl, Nat.le_of_ble_eq_true rfl⟩ ⟨Nat.le_of_ble_eq_true rfl, Nat.le_of_ble_eq_true rfl⟩ dL_areRulesSo_18 ?_
      refine k_istore_n hx hb dL_areRulesSo_21 rfl ?_
      refine k_iconst hx hb dL_areRulesSo_22 (by decide) ?_
      refine k_istore hx hb dL_areRulesSo_23 ?_
      refine k_iconst hx hb dL_areRulesSo_25 (by decide) ?_
      refine k_istore hx hb dL_areRulesSo_26 ?_
      exact hK28
set_option maxRecDepth 20000 in
theorem sL_areRulesSo_0 {l : Launch} {z0 b : Nat} {D : va_G} {cA : Nat → ClassId} {p : Program} {e : Env} {s : State} {m : MethodId} {args : Array Value} {below : List Frame} {meth : Method} {c : Code} {Kn : QK} {K4 K28 K132 : ZK QQ} {i : Bool} (hlt : l.stackTraces = false) (C : zCx p l (zRm 9 90 158) s m args meth c cL_areRulesSo 6 RL z0 D cA 0) (hr : meth.sig.returnType = (some .boolean)) (HL_standing : SemL l z0 b D cA yL_standing (Cond.codeWith yL_standing cL_standing 3 (some .int) [(0, 5, 6, 38)]) 8 124 2 1 tL_standing) (hK4 : Snd p l e (zRm 9 90 158) s m args below meth c 6 z0 b (I2 z0 b D cA 0 s) (c2 0 0) (zQ2 below z0 b D cA Kn args s 90) 4 K4) (hK28 : Snd p l e (zRm 9 90 158) s m args below meth c 6 z0 b (I2 z0 b D cA 0 s) (c2 0 0) (zQ2 below z0 b D cA Kn args s 90) 28 K28) (hK132 : Snd p l e (zRm 9 90 158) s m args below meth c 6 z0 b (I2 z0 b D cA 0 s) (c2 0 0) (zQ2 below z0 b D cA Kn args s 90) 132 K132) : Snd p l e (zRm 9 90 158) s m args below meth c 6 z0 b (I2 z0 b D cA 0 s) (c2 0 0) (zQ2 below z0 b D cA Kn args s 90) 0 (bL_areRulesSo_0 i Kn K4 K28 K132) := by
  obtain ⟨hx, hb, hml, hown, hts, -⟩ := id C
  unfold bL_areRulesSo_0
  refine k_iconst hx hb dL_areRulesSo_0 (by decide) ?_
  refine k_istore_n hx hb dL_areRulesSo_1 rfl ?_
  refine k_iconst hx hb dL_areRulesSo_2 (by decide) ?_
  refine k_istore_n hx hb dL_areRulesSo_3 rfl ?_
  exact hK4
set_option maxRecDepth 20000 in
theorem uL_areRulesSo {l : Launch} {z0 b : Nat} {D : va_G} {cA : Nat → ClassId} (hlt : l.stackTraces = false) (HL_standing : SemL l z0 b D cA yL_standing (Cond.codeWith yL_standing cL_standing 3 (some .int) [(0, 5, 6, 38)]) 8 124 2 1 tL_standing) (spec : ∀ (a : List Value) (μ ν : zMS) (Kn : QK), zok 1 a = true → tL_areRulesSo a μ ν Kn → ∃ i : Bool, ∀ (A : Nat → ZK QQ), (∀ ls st t', bL_areRulesSo_4 i Kn (A 4) (A 28) (A 132) ls st t' → A 4 ls st t') → (∀ ls st t', bL_areRulesSo_28 i Kn (A 4) (A 28) (A 132) ls st t' → A 28 ls st t') → (∀ ls st t', bL_areRulesSo_132 i Kn (A 4) (A 28) (A 132) ls st t' → A 132 ls st t') → bL_areRulesSo_0 i Kn (A 4) (A 28) (A 132) (zE 6 a) [] (μ, ν, 0, 0)) : SemL l z0 b D cA yL_areRulesSo (Cond.code yL_areRulesSo cL_areRulesSo 6 (some .boolean)) 9 158 1 90 tL_areRulesSo := by
  refine semL_of hlt (by decide +kernel) (by decide) (fun p e s m args below meth c a μ ν Kn hok hN C hr => ?_)
  obtain ⟨i, hi⟩ := spec a μ ν Kn hok hN
  exact sL_areRulesSo_0 (i := i) hlt C hr HL_standing (fun _ _ _ q => q) (fun _ _ _ q => q) (fun _ _ _ q => q) _ _ _ (hi (fun pc => AW p l e (zRm 9 90 158) s m args below meth c 6 z0 b (I2 z0 b D cA 0 s) (c2 0 0) (zQ2 below z0 b D cA Kn args s 90) pc) (fun ls st t' hq => sL_areRulesSo_4 (i := i) hlt C hr HL_standing (fun _ _ _ q => q) (fun _ _ _ q => q) (fun _ _ _ q => q) ls st t' hq) (fun ls st t' hq => sL_areRulesSo_28 (i := i) hlt C hr HL_standing (fun _ _ _ q => q) (fun _ _ _ q => q) (fun _ _ _ q => q) ls st t' hq) (fun ls st t' hq => sL_areRulesSo_132 (i := i) hlt C hr HL_standing (fun _ _ _ q => q) (fun _ _ _ q => q) (fun _ _ _ q => q) ls st t' hq))
