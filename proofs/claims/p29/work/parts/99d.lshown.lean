def bL_areShownSo_335 (i : Bool) (Kn : QK) (K76 K238 K260 : ZK QQ) : ZK QQ := (o_iload 4 (o_ret2 0 .boolean Kn))
def bL_areShownSo_329 (i : Bool) (Kn : QK) (K76 K238 K260 : ZK QQ) : ZK QQ := (o_iinc 5 (1) K76)
def bL_areShownSo_323 (i : Bool) (Kn : QK) (K76 K238 K260 : ZK QQ) : ZK QQ := (o_iinc 9 (1) K238)
def bL_areShownSo_315 (i : Bool) (Kn : QK) (K76 K238 K260 : ZK QQ) : ZK QQ := (o_istore 4 (o_iinc 10 (1) K260))
def bL_areShownSo_310 (i : Bool) (Kn : QK) (K76 K238 K260 : ZK QQ) : ZK QQ := (o_ic (1) (bL_areShownSo_315 i Kn K76 K238 K260))
def bL_areShownSo_260 (i : Bool) (Kn : QK) (K76 K238 K260 : ZK QQ) : ZK QQ := (o_iload 10 (o_aload 0 (o_rd0 i 0 (fun μ => gTags μ) (o_if2 (fun x y => y ≤ x) (bL_areShownSo_323 i Kn K76 K238 K260) (o_iload 4 (o_if1 (fun x => x = 0) (bL_areShownSo_323 i Kn K76 K238 K260) (o_aload 0 (o_iload 10 (o_rd1 i 0 (fun x0 μ => gEnd μ x0) (o_iload 5 (o_if2 (fun x y => ¬ x = y) (bL_areShownSo_310 i Kn K76 K238 K260) (o_aload 0 (o_iload 10 (o_iload 9 (o_rd2 i 0 (fun x0 x1 μ => gImplies μ x0 x1) (o_if1 (fun x => x = 0) (bL_areShownSo_310 i Kn K76 K238 K260) (o_iload 2 (o_aload 0 (o_iload 9 (o_rd1 i 0 (fun x0 μ => gEnd μ x0) (o_bin (fun x y => x >>> (y &&& 31)) (o_ic (1) (o_bin (fun x y => x &&& y) (o_ic (1) (o_if2 (fun x y => ¬ x = y) (o_ic (0) (bL_areShownSo_315 i Kn K76 K238 K260)) (bL_areShownSo_310 i Kn K76 K238 K260))))))))))))))))))))))))))
def bL_areShownSo_238 (i : Bool) (Kn : QK) (K76 K238 K260 : ZK QQ) : ZK QQ := (o_iload 9 (o_aload 0 (o_rd0 i 0 (fun μ => gTags μ) (o_if2 (fun x y => y ≤ x) (bL_areShownSo_329 i Kn K76 K238 K260) (o_iload 4 (o_if1 (fun x => x = 0) (bL_areShownSo_329 i Kn K76 K238 K260) (o_iload 6 (o_if1 (fun x => x = 0) (bL_areShownSo_329 i Kn K76 K238 K260) (o_ic (0) (o_istore 10 K260))))))))))
def bL_areShownSo_233 (i : Bool) (Kn : QK) (K76 K238 K260 : ZK QQ) : ZK QQ := (o_istore 4 (o_ic (0) (o_istore 9 K238)))
def bL_areShownSo_232 (i : Bool) (Kn : QK) (K76 K238 K260 : ZK QQ) : ZK QQ := (o_ic (0) (bL_areShownSo_233 i Kn K76 K238 K260))
def bL_areShownSo_228 (i : Bool) (Kn : QK) (K76 K238 K260 : ZK QQ) : ZK QQ := (o_ic (1) (bL_areShownSo_233 i Kn K76 K238 K260))
def bL_areShownSo_209 (i : Bool) (Kn : QK) (K76 K238 K260 : ZK QQ) : ZK QQ := (o_iload 8 (o_if1 (fun x => x = 0) (bL_areShownSo_228 i Kn K76 K238 K260) (o_iload 2 (o_aload 0 (o_iload 5 (o_rd1 i 0 (fun x0 μ => gEnd μ x0) (o_bin (fun x y => x >>> (y &&& 31)) (o_ic (1) (o_bin (fun x y => x &&& y) (o_ic (1) (o_if2 (fun x y => ¬ x = y) (bL_areShownSo_232 i Kn K76 K238 K260) (bL_areShownSo_228 i Kn K76 K238 K260))))))))))))
def bL_areShownSo_143 (i : Bool) (Kn : QK) (K76 K238 K260 : ZK QQ) : ZK QQ := (o_iload 6 (o_if2 (fun x y => ¬ x = y) (bL_areShownSo_232 i Kn K76 K238 K260) (o_iload 6 (o_if1 (fun x => x = 0) (bL_areShownSo_209 i Kn K76 K238 K260) (o_aload 0 (o_iload 5 (o_rd1 i 0 (fun x0 μ => gAlias μ x0) (o_ic (-1) (o_if2 (fun x y => ¬ x = y) (bL_areShownSo_232 i Kn K76 K238 K260) (o_aload 0 (o_iload 5 (o_rd1 i 0 (fun x0 μ => gEnd μ x0) (o_iload 5 (o_if2 (fun x y => ¬ x = y) (bL_areShownSo_232 i Kn K76 K238 K260) (o_iload 3 (o_iload 7 (o_ic (100) (o_irem (o_bin (fun x y => x >>> (y &&& 31)) (o_ic (1) (o_bin (fun x y => x &&& y) (o_ic (1) (o_if2 (fun x y => ¬ x = y) (bL_areShownSo_232 i Kn K76 K238 K260) (o_iload 7 (o_ic (100) (o_idiv (o_if1 (fun x => 0 < x) (bL_areShownSo_209 i Kn K76 K238 K260) (o_aload 0 (o_iload 7 (o_ic (100) (o_irem (o_rd1 i 0 (fun x0 μ => gEnd μ x0) (o_iload 5 (o_if2 (fun x y => ¬ x = y) (bL_areShownSo_232 i Kn K76 K238 K260) (bL_areShownSo_209 i Kn K76 K238 K260)))))))))))))))))))))))))))))))))))
def bL_areShownSo_131 (i : Bool) (Kn : QK) (K76 K238 K260 : ZK QQ) : ZK QQ := (o_istore 8 (o_iload 7 (o_if1 (fun x => x < 0) (o_ic (0) (bL_areShownSo_143 i Kn K76 K238 K260)) (o_ic (1) (bL_areShownSo_143 i Kn K76 K238 K260)))))
def bL_areShownSo_105 (i : Bool) (Kn : QK) (K76 K238 K260 : ZK QQ) : ZK QQ := (o_istore 6 (o_aload 0 (o_iload 1 (o_iload 5 (o_rd2 i 0 (fun x0 x1 μ => gReason μ x0 x1) (o_istore 7 (o_iload 3 (o_iload 5 (o_bin (fun x y => x >>> (y &&& 31)) (o_ic (1) (o_bin (fun x y => x &&& y) (o_ic (1) (o_if2 (fun x y => ¬ x = y) (o_ic (0) (bL_areShownSo_131 i Kn K76 K238 K260)) (o_ic (1) (bL_areShownSo_131 i Kn K76 K238 K260)))))))))))))))
def bL_areShownSo_76 (i : Bool) (Kn : QK) (K76 K238 K260 : ZK QQ) : ZK QQ := (o_iload 5 (o_aload 0 (o_rd0 i 0 (fun μ => gTags μ) (o_if2 (fun x y => y ≤ x) (bL_areShownSo_335 i Kn K76 K238 K260) (o_iload 4 (o_if1 (fun x => x = 0) (bL_areShownSo_335 i Kn K76 K238 K260) (o_iload 2 (o_iload 5 (o_bin (fun x y => x >>> (y &&& 31)) (o_ic (1) (o_bin (fun x y => x &&& y) (o_ic (1) (o_if2 (fun x y => ¬ x = y) (o_ic (0) (bL_areShownSo_105 i Kn K76 K238 K260)) (o_ic (1) (bL_areShownSo_105 i Kn K76 K238 K260)))))))))))))))
def bL_areShownSo_71 (i : Bool) (Kn : QK) (K76 K238 K260 : ZK QQ) : ZK QQ := (o_istore 4 (o_ic (0) (o_istore 5 K76)))
def bL_areShownSo_70 (i : Bool) (Kn : QK) (K76 K238 K260 : ZK QQ) : ZK QQ := (o_ic (0) (bL_areShownSo_71 i Kn K76 K238 K260))
def bL_areShownSo_63 (i : Bool) (Kn : QK) (K76 K238 K260 : ZK QQ) : ZK QQ := (o_if2 (fun x y => ¬ x = y) (bL_areShownSo_70 i Kn K76 K238 K260) (o_ic (1) (bL_areShownSo_71 i Kn K76 K238 K260)))
def bL_areShownSo_54 (i : Bool) (Kn : QK) (K76 K238 K260 : ZK QQ) : ZK QQ := (o_iload 2 (o_if1 (fun x => ¬ x = 0) (o_ic (0) (bL_areShownSo_63 i Kn K76 K238 K260)) (o_ic (1) (bL_areShownSo_63 i Kn K76 K238 K260))))
def bL_areShownSo_0 (i : Bool) (Kn : QK) (K76 K238 K260 : ZK QQ) : ZK QQ := (o_aload 0 (o_iload 1 (o_rd1 i 0 (fun x0 μ => gShown μ x0) (o_istore 2 (o_aload 0 (o_iload 1 (o_rd1 i 0 (fun x0 μ => gHand μ x0) (o_istore 3 (o_aload 0 (o_iload 1 (o_rd1 i 0 (fun x0 μ => gShown μ x0) (o_iload 2 (o_if2 (fun x y => ¬ x = y) (bL_areShownSo_70 i Kn K76 K238 K260) (o_iload 3 (o_if1 (fun x => x < 0) (bL_areShownSo_70 i Kn K76 K238 K260) (o_iload 3 (o_ic (1) (o_aload 0 (o_rd0 i 0 (fun μ => gTags μ) (o_bin (fun x y => x <<< (y &&& 31)) (o_if2 (fun x y => y ≤ x) (bL_areShownSo_70 i Kn K76 K238 K260) (o_iload 2 (o_ic (1) (o_aload 0 (o_rd0 i 0 (fun μ => gTags μ) (o_bin (fun x y => x <<< (y &&& 31)) (o_if2 (fun x y => y ≤ x) (bL_areShownSo_70 i Kn K76 K238 K260) (o_iload 3 (o_if1 (fun x => ¬ x = 0) (o_ic (0) (bL_areShownSo_54 i Kn K76 K238 K260)) (o_ic (1) (bL_areShownSo_54 i Kn K76 K238 K260)))))))))))))))))))))))))))))))
set_option maxRecDepth 20000 in
theorem sL_areShownSo_335 {l : Launch} {z0 b : Nat} {D : va_G} {cA : Nat → ClassId} {p : Program} {e : Env} {s : State} {m : MethodId} {args : Array Value} {below : List Frame} {meth : Method} {c : Code} {Kn : QK} {K76 K238 K260 : ZK QQ} {i : Bool} (hlt : l.stackTraces = false) (C : zCx p l (zRm 8 0 125) s m args meth c cL_areShownSo 11 RL z0 D cA 0) (hr : meth.sig.returnType = (some .boolean)) (hK76 : Snd p l e (zRm 8 0 125) s m args below meth c 11 z0 b (I2 z0 b D cA 0 s) (c2 0 0) (zQ2 below z0 b D cA Kn args s 0) 76 K76) (hK238 : Snd p l e (zRm 8 0 125) s m args below meth c 11 z0 b (I2 z0 b D cA 0 s) (c2 0 0) (zQ2 below z0 b D cA Kn args s 0) 238 K238) (hK260 : Snd p l e (zRm 8 0 125) s m args below meth c 11 z0 b (I2 z0 b D cA 0 s) (c2 0 0) (zQ2 below z0 b D cA Kn args s 0) 260 K260) : Snd p l e (zRm 8 0 125) s m args below meth c 11 z0 b (I2 z0 b D cA 0 s) (c2 0 0) (zQ2 below z0 b D cA Kn args s 0) 335 (bL_areShownSo_335 i Kn K76 K238 K260) := by
  obtain ⟨hx, hb, hml, hown, hts, -⟩ := id C
  unfold bL_areShownSo_335
  refine k_iload hx hb dL_areShownSo_335 ?_
  exact k_ret2 C hr dL_areShownSo_337
set_option maxRecDepth 20000 in
theorem sL_areShownSo_329 {l : Launch} {z0 b : Nat} {D : va_G} {cA : Nat → ClassId} {p : Program} {e : Env} {s : State} {m : MethodId} {args : Array Value} {below : List Frame} {meth : Method} {c : Code} {Kn : QK} {K76 K238 K260 : ZK QQ} {i : Bool} (hlt : l.stackTraces = false) (C : zCx p l (zRm 8 0 125) s m args meth c cL_areShownSo 11 RL z0 D cA 0) (hr : meth.sig.returnType = (some .boolean)) (hK76 : Snd p l e (zRm 8 0 125) s m args below meth c 11 z0 b (I2 z0 b D cA 0 s) (c2 0 0) (zQ2 below z0 b D cA Kn args s 0) 76 K76) (hK238 : Snd p l e (zRm 8 0 125) s m args below meth c 11 z0 b (I2 z0 b D cA 0 s) (c2 0 0) (zQ2 below z0 b D cA Kn args s 0) 238 K238) (hK260 : Snd p l e (zRm 8 0 125) s m args below meth c 11 z0 b (I2 z0 b D cA 0 s) (c2 0 0) (zQ2 below z0 b D cA Kn args s 0) 260 K260) : Snd p l e (zRm 8 0 125) s m args below meth c 11 z0 b (I2 z0 b D cA 0 s) (c2 0 0) (zQ2 below z0 b D cA Kn args s 0) 329 (bL_areShownSo_329 i Kn K76 K238 K260) := by
  obtain ⟨hx, hb, hml, hown, hts, -⟩ := id C
  unfold bL_areShownSo_329
  refine k_iinc hx hb dL_areShownSo_329 (by decide) ?_
  refine k_goto (tgt := 76) hx hb dL_areShownSo_332 (by decide) ?_
  exact hK76
set_option maxRecDepth 20000 in
theorem sL_areShownSo_323 {l : Launch} {z0 b : Nat} {D : va_G} {cA : Nat → ClassId} {p : Program} {e : Env} {s : State} {m : MethodId} {args : Array Value} {below : List Frame} {meth : Method} {c : Code} {Kn : QK} {K76 K238 K260 : ZK QQ} {i : Bool} (hlt : l.stackTraces = false) (C : zCx p l (zRm 8 0 125) s m args meth c cL_areShownSo 11 RL z0 D cA 0) (hr : meth.sig.returnType = (some .boolean)) (hK76 : Snd p l e (zRm 8 0 125) s m args below meth c 11 z0 b (I2 z0 b D cA 0 s) (c2 0 0) (zQ2 below z0 b D cA Kn args s 0) 76 K76) (hK238 : Snd p l e (zRm 8 0 125) s m args below meth c 11 z0 b (I2 z0 b D cA 0 s) (c2 0 0) (zQ2 below z0 b D cA Kn args s 0) 238 K238) (hK260 : Snd p l e (zRm 8 0 125) s m args below meth c 11 z0 b (I2 z0 b D cA 0 s) (c2 0 0) (zQ2 below z0 b D cA Kn args s 0) 260 K260) : Snd p l e (zRm 8 0 125) s m args below meth c 11 z0 b (I2 z0 b D cA 0 s) (c2 0 0) (zQ2 below z0 b D cA Kn args s 0) 323 (bL_areShownSo_323 i Kn K76 K238 K260) := by
  obtain ⟨hx, hb, hml, hown, hts, -⟩ := id C
  unfold bL_areShownSo_323
  refine k_iinc hx hb dL_areShownSo_323 (by decide) ?_
  refine k_goto (tgt := 238) hx hb dL_areShownSo_326 (by decide) ?_
  exact hK238
set_option maxRecDepth 20000 in
theorem sL_areShownSo_315 {l : Launch} {z0 b : Nat} {D : va_G} {cA : Nat → ClassId} {p : Program} {e : Env} {s : State} {m : MethodId} {args : Array Value} {below : List Frame} {meth : Method} {c : Code} {Kn : QK} {K76 K238 K260 : ZK QQ} {i : Bool} (hlt : l.stackTraces = false) (C : zCx p l (zRm 8 0 125) s m args meth c cL_areShownSo 11 RL z0 D cA 0) (hr : meth.sig.returnType = (some .boolean)) (hK76 : Snd p l e (zRm 8 0 125) s m args below meth c 11 z0 b (I2 z0 b D cA 0 s) (c2 0 0) (zQ2 below z0 b D cA Kn args s 0) 76 K76) (hK238 : Snd p l e (zRm 8 0 125) s m args below meth c 11 z0 b (I2 z0 b D cA 0 s) (c2 0 0) (zQ2 below z0 b D cA Kn args s 0) 238 K238) (hK260 : Snd p l e (zRm 8 0 125) s m args below meth c 11 z0 b (I2 z0 b D cA 0 s) (c2 0 0) (zQ2 below z0 b D cA Kn args s 0) 260 K260) : Snd p l e (zRm 8 0 125) s m args below meth c 11 z0 b (I2 z0 b D cA 0 s) (c2 0 0) (zQ2 below z0 b D cA Kn args s 0) 315 (bL_areShownSo_315 i Kn K76 K238 K260) := by
  obtain ⟨hx, hb, hml, hown, hts, -⟩ := id C
  unfold bL_areShownSo_315
  refine k_istore hx hb dL_areShownSo_315 ?_
  refine k_iinc hx hb dL_areShownSo_317 (by decide) ?_
  refine k_goto (tgt := 260) hx hb dL_areShownSo_320 (by decide) ?_
  exact hK260
set_option maxRecDepth 20000 in
theorem sL_areShownSo_310 {l : Launch} {z0 b : Nat} {D : va_G} {cA : Nat → ClassId} {p : Program} {e : Env} {s : State} {m : MethodId} {args : Array Value} {below : List Frame} {meth : Method} {c : Code} {Kn : QK} {K76 K238 K260 : ZK QQ} {i : Bool} (hlt : l.stackTraces = false) (C : zCx p l (zRm 8 0 125) s m args meth c cL_areShownSo 11 RL z0 D cA 0) (hr : meth.sig.returnType = (some .boolean)) (hK76 : Snd p l e (zRm 8 0 125) s m args below meth c 11 z0 b (I2 z0 b D cA 0 s) (c2 0 0) (zQ2 below z0 b D cA Kn args s 0) 76 K76) (hK238 : Snd p l e (zRm 8 0 125) s m args below meth c 11 z0 b (I2 z0 b D cA 0 s) (c2 0 0) (zQ2 below z0 b D cA Kn args s 0) 238 K238) (hK260 : Snd p l e (zRm 8 0 125) s m args below meth c 11 z0 b (I2 z0 b D cA 0 s) (c2 0 0) (zQ2 below z0 b D cA Kn args s 0) 260 K260) : Snd p l e (zRm 8 0 125) s m args below meth c 11 z0 b (I2 z0 b D cA 0 s) (c2 0 0) (zQ2 below z0 b D cA Kn args s 0) 310 (bL_areShownSo_310 i Kn K76 K238 K260) := by
  obtain ⟨hx, hb, hml, hown, hts, -⟩ := id C
  unfold bL_areShownSo_310
  refine k_iconst hx hb dL_areShownSo_310 (by decide) ?_
  refine k_goto (tgt := 315) hx hb dL_areShownSo_311 (by decide) ?_
  exact sL_areShownSo_315 hlt C hr hK76 hK238 hK260
set_option maxRecDepth 20000 in
theorem sL_areShownSo_260 {l : Launch} {z0 b : Nat} {D : va_G} {cA : Nat → ClassId} {p : Program} {e : Env} {s : State} {m : MethodId} {args : Array Value} {below : List Frame} {meth : Method} {c : Code} {Kn : QK} {K76 K238 K260 : ZK QQ} {i : Bool} (hlt : l.stackTraces = false) (C : zCx p l (zRm 8 0 125) s m args meth c cL_areShownSo 11 RL z0 D cA 0) (hr : meth.sig.returnType = (some .boolean)) (hK76 : Snd p l e (zRm 8 0 125) s m args below meth c 11 z0 b (I2 z0 b D cA 0 s) (c2 0 0) (zQ2 below z0 b D cA Kn args s 0) 76 K76) (hK238 : Snd p l e (zRm 8 0 125) s m args below meth c 11 z0 b (I2 z0 b D cA 0 s) (c2 0 0) (zQ2 below z0 b D cA Kn args s 0) 238 K238) (hK260 : Snd p l e (zRm 8 0 125) s m args below meth c 11 z0 b (I2 z0 b D cA 0 s) (c2 0 0) (zQ2 below z0 b D cA Kn args s 0) 260 K260) : Snd p l e (zRm 8 0 125) s m args below meth c 11 z0 b (I2 z0 b D cA 0 s) (c2 0 0) (zQ2 below z0 b D cA Kn args s 0) 260 (bL_areShownSo_260 i Kn K76 K238 K260) := by
  obtain ⟨hx, hb, hml, hown, hts, -⟩ := id C
  unfold bL_areShownSo_260
  refine k_iload hx hb dL_areShownSo_260 ?_
  refine k_aload_n hx hb dL_areShownSo_262 rfl ?_
  refine k_rd0 C (i := i) (MB := 0) (g := (fun μ => gTags μ)) (wp := w11) (fun z0 N => mX5_tags hlt) (fun σ μ h => sim_tags h) w11_n (fun μ => ro_tags) rfl zlL_63 zmX5_tags zvX5_tags ziX5 zcX5_tags (by decide +kernel) ⟨Nat.le_of_ble_eq_true rfl, Nat.le_of_ble_eq_true rfl⟩ ⟨Nat.le_of_ble_eq_true rfl, Nat.le_of_ble_eq_true rfl⟩ dL_areShownSo_263 ?_
  refine k_icmp_ge (tgt := 323) hx hb dL_areShownSo_266 (by decide) ?_ ?_
  · exact sL_areShownSo_323 hlt C hr hK76 hK238 hK260
  · refine k_iload hx hb dL_areShownSo_269 ?_
    refine k_if_eq (tgt := 323) hx hb dL_areShownSo_271 (by decide) ?_ ?_
    · exact sL_areShownSo_323 hlt C hr hK76 hK238 hK260
    · refine k_aload_n hx hb dL_areShownSo_274 rfl ?_
      refine k_iload hx hb dL_areShownSo_275 ?_
      refine k_rd1 C (i := i) (MB := 0) (g := (fun x0 μ => gEnd μ x0)) (wp := w21) (fun z0 N => mX5_end hlt) (fun x0 σ μ h => sim_end h) w21_n (fun x0 μ => ro_end) rfl zlL_105 zmX5_end zvX5_end ziX5 zcX5_end (by decide +kernel) ⟨Nat.le_of_ble_eq_true rfl, Nat.le_of_ble_eq_true rfl⟩ ⟨Nat.le_of_ble_eq_true rfl, Nat.le_of_ble_eq_true rfl⟩ dL_areShownSo_277 ?_
      refine k_iload hx hb dL_areShownSo_280 ?_
      refine k_icmp_ne (tgt := 310) hx hb dL_areShownSo_282 (by decide) ?_ ?_
      · exact sL_areShownSo_310 hlt C hr hK76 hK238 hK260
      · refine k_aload_n hx hb dL_areShownSo_285 rfl ?_
        refine k_iload hx hb dL_areShownSo_286 ?_
        refine k_iload hx hb dL_areShownSo_288 ?_
        refine k_rd2 C (i := i) (MB := 0) (g := (fun x0 x1 μ => gImplies μ x0 x1)) (wp := w21) (fun z0 N => mX5_implies hlt) (fun x0 x1 σ μ h => sim_implies h) w21_n (fun x0 x1 μ => ro_implies) rfl zlL_108 zmX5_implies zvX5_implies ziX5 zcX5_implies (by decide +kernel) ⟨Nat.le_of_ble_eq_true rfl, Nat.le_of_ble_eq_true rfl⟩ ⟨Nat.le_of_ble_eq_true rfl, Nat.le_of_ble_eq_true rfl⟩ dL_areShownSo_290 ?_
        refine k_if_eq (tgt := 310) hx hb dL_areShownSo_293 (by decide) ?_ ?_
        · exact sL_areShownSo_310 hlt C hr hK76 hK238 hK260
        · refine k_iload_n hx hb dL_areShownSo_296 rfl ?_
          refine k_aload_n hx hb dL_areShownSo_297 rfl ?_
          refine k_iload hx hb dL_areShownSo_298 ?_
          refine k_rd1 C (i := i) (MB := 0) (g := (fun x0 μ => gEnd μ x0)) (wp := w21) (fun z0 N => mX5_end hlt) (fun x0 σ μ h => sim_end h) w21_n (fun x0 μ => ro_end) rfl zlL_105 zmX5_end zvX5_end ziX5 zcX5_end (by decide +kernel) ⟨Nat.le_of_ble_eq_true rfl, Nat.le_of_ble_eq_true rfl⟩ ⟨Nat.le_of_ble_eq_true rfl, Nat.le_of_ble_eq_true rfl⟩ dL_areShownSo_300 ?_
          refine k_ishr hx hb dL_areShownSo_303 ?_
          refine k_iconst hx hb dL_areShownSo_304 (by decide) ?_
          refine k_iand hx hb dL_areShownSo_305 ?_
          refine k_iconst hx hb dL_areShownSo_306 (by decide) ?_
          refine k_icmp_ne (tgt := 314) hx hb dL_areShownSo_307 (by decide) ?_ ?_
          · refine k_iconst hx hb dL_areShownSo_314 (by decide) ?_
            exact sL_areShownSo_315 hlt C hr hK76 hK238 hK260
          · exact sL_areShownSo_310 hlt C hr hK76 hK238 hK260
set_option maxRecDepth 20000 in
theorem sL_areShownSo_238 {l : Launch} {z0 b : Nat} {D : va_G} {cA : Nat → ClassId} {p : Program} {e : Env} {s : State} {m : MethodId} {args : Array Value} {below : List Frame} {meth : Method} {c : Code} {Kn : QK} {K76 K238 K260 : ZK QQ} {i : Bool} (hlt : l.stackTraces = false) (C : zCx p l (zRm 8 0 125) s m args meth c cL_areShownSo 11 RL z0 D cA 0) (hr : meth.sig.returnType = (some .boolean)) (hK76 : Snd p l e (zRm 8 0 125) s m args below meth c 11 z0 b (I2 z0 b D cA 0 s) (c2 0 0) (zQ2 below z0 b D cA Kn args s 0) 76 K76) (hK238 : Snd p l e (zRm 8 0 125) s m args below meth c 11 z0 b (I2 z0 b D cA 0 s) (c2 0 0) (zQ2 below z0 b D cA Kn args s 0) 238 K238) (hK260 : Snd p l e (zRm 8 0 125) s m args below meth c 11 z0 b (I2 z0 b D cA 0 s) (c2 0 0) (zQ2 below z0 b D cA Kn args s 0) 260 K260) : Snd p l e (zRm 8 0 125) s m args below meth c 11 z0 b (I2 z0 b D cA 0 s) (c2 0 0) (zQ2 below z0 b D cA Kn args s 0) 238 (bL_areShownSo_238 i Kn K76 K238 K260) := by
  obtain ⟨hx, hb, hml, hown, hts, -⟩ := id C
  unfold bL_areShownSo_238
  refine k_iload hx hb dL_areShownSo_238 ?_
  refine k_aload_n hx hb dL_areShownSo_240 rfl ?_
  refine k_rd0 C (i := i) (MB := 0) (g := (fun μ => gTags μ)) (wp := w11) (fun z0 N => mX5_tags hlt) (fun σ μ h => sim_tags h) w11_n (fun μ => ro_tags) rfl zlL_63 zmX5_tags zvX5_tags ziX5 zcX5_tags (by decide +kernel) ⟨Nat.le_of_ble_eq_true rfl, Nat.le_of_ble_eq_true rfl⟩ ⟨Nat.le_of_ble_eq_true rfl, Nat.le_of_ble_eq_true rfl⟩ dL_areShownSo_241 ?_
  refine k_icmp_ge (tgt := 329) hx hb dL_areShownSo_244 (by decide) ?_ ?_
  · exact sL_areShownSo_329 hlt C hr hK76 hK238 hK260
  · refine k_iload hx hb dL_areShownSo_247 ?_
    refine k_if_eq (tgt := 329) hx hb dL_areShownSo_249 (by decide) ?_ ?_
    · exact sL_areShownSo_329 hlt C hr hK76 hK238 hK260
    · refine k_iload hx hb dL_areShownSo_252 ?_
      refine k_if_eq (tgt := 329) hx hb dL_areShownSo_254 (by decide) ?_ ?_
      · exact sL_areShownSo_329 hlt C hr hK76 hK238 hK260
      · refine k_iconst hx hb dL_areShownSo_257 (by decide) ?_
        refine k_istore hx hb dL_areShownSo_258 ?_
        exact hK260
set_option maxRecDepth 20000 in
theorem sL_areShownSo_233 {l : Launch} {z0 b : Nat} {D : va_G} {cA : Nat → ClassId} {p : Program} {e : Env} {s : State} {m : MethodId} {args : Array Value} {below : List Frame} {meth : Method} {c : Code} {Kn : QK} {K76 K238 K260 : ZK QQ} {i : Bool} (hlt : l.stackTraces = false) (C : zCx p l (zRm 8 0 125) s m args meth c cL_areShownSo 11 RL z0 D cA 0) (hr : meth.sig.returnType = (some .boolean)) (hK76 : Snd p l e (zRm 8 0 125) s m args below meth c 11 z0 b (I2 z0 b D cA 0 s) (c2 0 0) (zQ2 below z0 b D cA Kn args s 0) 76 K76) (hK238 : Snd p l e (zRm 8 0 125) s m args below meth c 11 z0 b (I2 z0 b D cA 0 s) (c2 0 0) (zQ2 below z0 b D cA Kn args s 0) 238 K238) (hK260 : Snd p l e (zRm 8 0 125) s m args below meth c 11 z0 b (I2 z0 b D cA 0 s) (c2 0 0) (zQ2 below z0 b D cA Kn args s 0) 260 K260) : Snd p l e (zRm 8 0 125) s m args below meth c 11 z0 b (I2 z0 b D cA 0 s) (c2 0 0) (zQ2 below z0 b D cA Kn args s 0) 233 (bL_areShownSo_233 i Kn K76 K238 K260) := by
  obtain ⟨hx, hb, hml, hown, hts, -⟩ := id C
  unfold bL_areShownSo_233
  refine k_istore hx hb dL_areShownSo_233 ?_
  refine k_iconst hx hb dL_areShownSo_235 (by decide) ?_
  refine k_istore hx hb dL_areShownSo_236 ?_
  exact hK238
set_option maxRecDepth 20000 in
theorem sL_areShownSo_232 {l : Launch} {z0 b : Nat} {D : va_G} {cA : Nat → ClassId} {p : Program} {e : Env} {s : State} {m : MethodId} {args : Array Value} {below : List Frame} {meth : Method} {c : Code} {Kn : QK} {K76 K238 K260 : ZK QQ} {i : Bool} (hlt : l.stackTraces = false) (C : zCx p l (zRm 8 0 125) s m args meth c cL_areShownSo 11 RL z0 D cA 0) (hr : meth.sig.returnType = (some .boolean)) (hK76 : Snd p l e (zRm 8 0 125) s m args below meth c 11 z0 b (I2 z0 b D cA 0 s) (c2 0 0) (zQ2 below z0 b D cA Kn args s 0) 76 K76) (hK238 : Snd p l e (zRm 8 0 125) s m args below meth c 11 z0 b (I2 z0 b D cA 0 s) (c2 0 0) (zQ2 below z0 b D cA Kn args s 0) 238 K238) (hK260 : Snd p l e (zRm 8 0 125) s m args below meth c 11 z0 b (I2 z0 b D cA 0 s) (c2 0 0) (zQ2 below z0 b D cA Kn args s 0) 260 K260) : Snd p l e (zRm 8 0 125) s m args below meth c 11 z0 b (I2 z0 b D cA 0 s) (c2 0 0) (zQ2 below z0 b D cA Kn args s 0) 232 (bL_areShownSo_232 i Kn K76 K238 K260) := by
  obtain ⟨hx, hb, hml, hown, hts, -⟩ := id C
  unfold bL_areShownSo_232
  refine k_iconst hx hb dL_areShownSo_232 (by decide) ?_
  exact sL_areShownSo_233 hlt C hr hK76 hK238 hK260
set_option maxRecDepth 20000 in
theorem sL_areShownSo_228 {l : Launch} {z0 b : Nat} {D : va_G} {cA : Nat → ClassId} {p : Program} {e : Env} {s : State} {m : MethodId} {args : Array Value} {below : List Frame} {meth : Method} {c : Code} {Kn : QK} {K76 K238 K260 : ZK QQ} {i : Bool} (hlt : l.stackTraces = false) (C : zCx p l (zRm 8 0 125) s m args meth c cL_areShownSo 11 RL z0 D cA 0) (hr : meth.sig.returnType = (some .boolean)) (hK76 : Snd p l e (zRm 8 0 125) s m args below meth c 11 z0 b (I2 z0 b D cA 0 s) (c2 0 0) (zQ2 below z0 b D cA Kn args s 0) 76 K76) (hK238 : Snd p l e (zRm 8 0 125) s m args below meth c 11 z0 b (I2 z0 b D cA 0 s) (c2 0 0) (zQ2 below z0 b D cA Kn args s 0) 238 K238) (hK260 : Snd p l e (zRm 8 0 125) s m args below meth c 11 z0 b (I2 z0 b D cA 0 s) (c2 0 0) (zQ2 below z0 b D cA Kn args s 0) 260 K260) : Snd p l e (zRm 8 0 125) s m args below meth c 11 z0 b (I2 z0 b D cA 0 s) (c2 0 0) (zQ2 below z0 b D cA Kn args s 0) 228 (bL_areShownSo_228 i Kn K76 K238 K260) := by
  obtain ⟨hx, hb, hml, hown, hts, -⟩ := id C
  unfold bL_areShownSo_228
  refine k_iconst hx hb dL_areShownSo_228 (by decide) ?_
  refine k_goto (tgt := 233) hx hb dL_areShownSo_229 (by decide) ?_
  exact sL_areShownSo_233 hlt C hr hK76 hK238 hK260
set_option maxRecDepth 20000 in
theorem sL_areShownSo_209 {l : Launch} {z0 b : Nat} {D : va_G} {cA : Nat → ClassId} {p : Program} {e : Env} {s : State} {m : MethodId} {args : Array Value} {below : List Frame} {meth : Method} {c : Code} {Kn : QK} {K76 K238 K260 : ZK QQ} {i : Bool} (hlt : l.stackTraces = false) (C : zCx p l (zRm 8 0 125) s m args meth c cL_areShownSo 11 RL z0 D cA 0) (hr : meth.sig.returnType = (some .boolean)) (hK76 : Snd p l e (zRm 8 0 125) s m args below meth c 11 z0 b (I2 z0 b D cA 0 s) (c2 0 0) (zQ2 below z0 b D cA Kn args s 0) 76 K76) (hK238 : Snd p l e (zRm 8 0 125) s m args below meth c 11 z0 b (I2 z0 b D cA 0 s) (c2 0 0) (zQ2 below z0 b D cA Kn args s 0) 238 K238) (hK260 : Snd p l e (zRm 8 0 125) s m args below meth c 11 z0 b (I2 z0 b D cA 0 s) (c2 0 0) (zQ2 below z0 b D cA Kn args s 0) 260 K260) : Snd p l e (zRm 8 0 125) s m args below meth c 11 z0 b (I2 z0 b D cA 0 s) (c2 0 0) (zQ2 below z0 b D cA Kn args s 0) 209 (bL_areShownSo_209 i Kn K76 K238 K260) := by
  obtain ⟨hx, hb, hml, hown, hts, -⟩ := id C
  unfold bL_areShownSo_209
  refine k_iload hx hb dL_areShownSo_209 ?_
  refine k_if_eq (tgt := 228) hx hb dL_areShownSo_211 (by decide) ?_ ?_
  · exact sL_areShownSo_228 hlt C hr hK76 hK238 hK260
  · refine k_iload_n hx hb dL_areShownSo_214 rfl ?_
    refine k_aload_n hx hb dL_areShownSo_215 rfl ?_
    refine k_iload hx hb dL_areShownSo_216 ?_
    refine k_rd1 C (i := i) (MB := 0) (g := (fun x0 μ => gEnd μ x0)) (wp := w21) (fun z0 N => mX5_end hlt) (fun x0 σ μ h => sim_end h) w21_n (fun x0 μ => ro_end) rfl zlL_105 zmX5_end zvX5_end ziX5 zcX5_end (by decide +kernel) ⟨Nat.le_of_ble_eq_true rfl, Nat.le_of_ble_eq_true rfl⟩ ⟨Nat.le_of_ble_eq_true rfl, Nat.le_of_ble_eq_true rfl⟩ dL_areShownSo_218 ?_
    refine k_ishr hx hb dL_areShownSo_221 ?_
    refine k_iconst hx hb dL_areShownSo_222 (by decide) ?_
    refine k_iand hx hb dL_areShownSo_223 ?_
    refine k_iconst hx hb dL_areShownSo_224 (by decide) ?_
    refine k_icmp_ne (tgt := 232) hx hb dL_areShownSo_225 (by decide) ?_ ?_
    · exact sL_areShownSo_232 hlt C hr hK76 hK238 hK260
    · exact sL_areShownSo_228 hlt C hr hK76 hK238 hK260
set_option maxRecDepth 20000 in
theorem sL_areShownSo_143 {l : Launch} {z0 b : Nat} {D : va_G} {cA : Nat → ClassId} {p : Program} {e : Env} {s : State} {m : MethodId} {args : Array Value} {below : List Frame} {meth : Method} {c : Code} {Kn : QK} {K76 K238 K260 : ZK QQ} {i : Bool} (hlt : l.stackTraces = false) (C : zCx p l (zRm 8 0 125) s m args meth c cL_areShownSo 11 RL z0 D cA 0) (hr : meth.sig.returnType = (some .boolean)) (hK76 : Snd p l e (zRm 8 0 125) s m args below meth c 11 z0 b (I2 z0 b D cA 0 s) (c2 0 0) (zQ2 below z0 b D cA Kn args s 0) 76 K76) (hK238 : Snd p l e (zRm 8 0 125) s m args below meth c 11 z0 b (I2 z0 b D cA 0 s) (c2 0 0) (zQ2 below z0 b D cA Kn args s 0) 238 K238) (hK260 : Snd p l e (zRm 8 0 125) s m args below meth c 11 z0 b (I2 z0 b D cA 0 s) (c2 0 0) (zQ2 below z0 b D cA Kn args s 0) 260 K260) : Snd p l e (zRm 8 0 125) s m args below meth c 11 z0 b (I2 z0 b D cA 0 s) (c2 0 0) (zQ2 below z0 b D cA Kn args s 0) 143 (bL_areShownSo_143 i Kn K76 K238 K260) := by
  obtain ⟨hx, hb, hml, hown, hts, -⟩ := id C
  unfold bL_areShownSo_143
  refine k_iload hx hb dL_areShownSo_143 ?_
  refine k_icmp_ne (tgt := 232) hx hb dL_areShownSo_145 (by decide) ?_ ?_
  · exact sL_areShownSo_232 hlt C hr hK76 hK238 hK260
  · refine k_iload hx hb dL_areShownSo_148 ?_
    refine k_if_eq (tgt := 209) hx hb dL_areShownSo_150 (by decide) ?_ ?_
    · exact sL_areShownSo_209 hlt C hr hK76 hK238 hK260
    · refine k_aload_n hx hb dL_areShownSo_153 rfl ?_
      refine k_iload hx hb dL_areShownSo_154 ?_
      refine k_rd1 C (i := i) (MB := 0) (g := (fun x0 μ => gAlias μ x0)) (wp := w21) (fun z0 N => mX5_alias hlt) (fun x0 σ μ h => sim_alias h) w21_n (fun x0 μ => ro_alias) rfl zlL_80 zmX5_alias zvX5_alias ziX5 zcX5_alias (by decide +kernel) ⟨Nat.le_of_ble_eq_true rfl, Nat.le_of_ble_eq_true rfl⟩ ⟨Nat.le_of_ble_eq_true rfl, Nat.le_of_ble_eq_true rfl⟩ dL_areShownSo_156 ?_
      refine k_iconst hx hb dL_areShownSo_159 (by decide) ?_
      refine k_icmp_ne (tgt := 232) hx hb dL_areShownSo_160 (by decide) ?_ ?_
      · exact sL_areShownSo_232 hlt C hr hK76 hK238 hK260
      · refine k_aload_n hx hb dL_areShownSo_163 rfl ?_
        refine k_iload hx hb dL_areShownSo_164 ?_
        refine k_rd1 C (i := i) (MB := 0) (g := (fun x0 μ => gEnd μ x0)) (wp := w21) (fun z0 N => mX5_end hlt) (fun x0 σ μ h => sim_end h) w21_n (fun x0 μ => ro_end) rfl zlL_105 zmX5_end zvX5_end ziX5 zcX5_end (by decide +kernel) ⟨Nat.le_of_ble_eq_true rfl, Nat.le_of_ble_eq_true rfl⟩ ⟨Nat.le_of_ble_eq_true rfl, Nat.le_of_ble_eq_true rfl⟩ dL_areShownSo_166 ?_
        refine k_iload hx hb dL_areShownSo_169 ?_
        refine k_icmp_ne (tgt := 232) hx hb dL_areShownSo_171 (by decide) ?_ ?_
        · exact sL_areShownSo_232 hlt C hr hK76 hK238 hK260
        · refine k_iload_n hx hb dL_areShownSo_174 rfl ?_
          refine k_iload hx hb dL_areShownSo_175 ?_
          refine k_bipush hx hb dL_areShownSo_177 (by decide) ?_
          refine k_irem hx hb dL_areShownSo_179 ?_
          refine k_ishr hx hb dL_areShownSo_180 ?_
          refine k_iconst hx hb dL_areShownSo_181 (by decide) ?_
          refine k_iand hx hb dL_areShownSo_182 ?_
          refine k_iconst hx hb dL_areShownSo_183 (by decide) ?_
          refine k_icmp_ne (tgt := 232) hx hb dL_areShownSo_184 (by decide) ?_ ?_
          · exact sL_areShownSo_232 hlt C hr hK76 hK238 hK260
          · refine k_iload hx hb dL_areShownSo_187 ?_
            refine k_bipush hx hb dL_areShownSo_189 (by decide) ?_
            refine k_idiv hx hb dL_areShownSo_191 ?_
            refine k_if_gt (tgt := 209) hx hb dL_areShownSo_192 (by decide) ?_ ?_
            · exact sL_areShownSo_209 hlt C hr hK76 hK238 hK260
            · refine k_aload_n hx hb dL_areShownSo_195 rfl ?_
              refine k_iload hx hb dL_areShownSo_196 ?_
              refine k_bipush hx hb dL_areShownSo_198 (by decide) ?_
              refine k_irem hx hb dL_areShownSo_200 ?_
              refine k_rd1 C (i := i) (MB := 0) (g := (fun x0 μ => gEnd μ x0)) (wp := w21) (fun z0 N => mX5_end hlt) (fun x0 σ μ h => sim_end h) w21_n (fun x0 μ => ro_end) rfl zlL_105 zmX5_end zvX5_end ziX5 zcX5_end (by decide +kernel) ⟨Nat.le_of_ble_eq_true rfl, Nat.le_of_ble_eq_true rfl⟩ ⟨Nat.le_of_ble_eq_true rfl, Nat.le_of_ble_eq_true rfl⟩ dL_areShownSo_201 ?_
              refine k_iload hx hb dL_areShownSo_204 ?_
              refine k_icmp_ne (tgt := 232) hx hb dL_areShownSo_206 (by decide) ?_ ?_
              · exact sL_areShownSo_232 hlt C hr hK76 hK238 hK260
              · exact sL_areShownSo_209 hlt C hr hK76 hK238 hK260
set_option maxRecDepth 20000 in
theorem sL_areShownSo_131 {l : Launch} {z0 b : Nat} {D : va_G} {cA : Nat → ClassId} {p : Program} {e : Env} {s : State} {m : MethodId} {args : Array Value} {below : List Frame} {meth : Method} {c : Code} {Kn : QK} {K76 K238 K260 : ZK QQ} {i : Bool} (hlt : l.stackTraces = false) (C : zCx p l (zRm 8 0 125) s m args meth c cL_areShownSo 11 RL z0 D cA 0) (hr : meth.sig.returnType = (some .boolean)) (hK76 : Snd p l e (zRm 8 0 125) s m args below meth c 11 z0 b (I2 z0 b D cA 0 s) (c2 0 0) (zQ2 below z0 b D cA Kn args s 0) 76 K76) (hK238 : Snd p l e (zRm 8 0 125) s m args below meth c 11 z0 b (I2 z0 b D cA 0 s) (c2 0 0) (zQ2 below z0 b D cA Kn args s 0) 238 K238) (hK260 : Snd p l e (zRm 8 0 125) s m args below meth c 11 z0 b (I2 z0 b D cA 0 s) (c2 0 0) (zQ2 below z0 b D cA Kn args s 0) 260 K260) : Snd p l e (zRm 8 0 125) s m args below meth c 11 z0 b (I2 z0 b D cA 0 s) (c2 0 0) (zQ2 below z0 b D cA Kn args s 0) 131 (bL_areShownSo_131 i Kn K76 K238 K260) := by
  obtain ⟨hx, hb, hml, hown, hts, -⟩ := id C
  unfold bL_areShownSo_131
  refine k_istore hx hb dL_areShownSo_131 ?_
  refine k_iload hx hb dL_areShownSo_133 ?_
  refine k_if_lt (tgt := 142) hx hb dL_areShownSo_135 (by decide) ?_ ?_
  · refine k_iconst hx hb dL_areShownSo_142 (by decide) ?_
    exact sL_areShownSo_143 hlt C hr hK76 hK238 hK260
  · refine k_iconst hx hb dL_areShownSo_138 (by decide) ?_
    refine k_goto (tgt := 143) hx hb dL_areShownSo_139 (by decide) ?_
    exact sL_areShownSo_143 hlt C hr hK76 hK238 hK260
set_option maxRecDepth 20000 in
theorem sL_areShownSo_105 {l : Launch} {z0 b : Nat} {D : va_G} {cA : Nat → ClassId} {p : Program} {e : Env} {s : State} {m : MethodId} {args : Array Value} {below : List Frame} {meth : Method} {c : Code} {Kn : QK} {K76 K238 K260 : ZK QQ} {i : Bool} (hlt : l.stackTraces = false) (C : zCx p l (zRm 8 0 125) s m args meth c cL_areShownSo 11 RL z0 D cA 0) (hr : meth.sig.returnType = (some .boolean)) (hK76 : Snd p l e (zRm 8 0 125) s m args below meth c 11 z0 b (I2 z0 b D cA 0 s) (c2 0 0) (zQ2 below z0 b D cA Kn args s 0) 76 K76) (hK238 : Snd p l e (zRm 8 0 125) s m args below meth c 11 z0 b (I2 z0 b D cA 0 s) (c2 0 0) (zQ2 below z0 b D cA Kn args s 0) 238 K238) (hK260 : Snd p l e (zRm 8 0 125) s m args below meth c 11 z0 b (I2 z0 b D cA 0 s) (c2 0 0) (zQ2 below z0 b D cA Kn args s 0) 260 K260) : Snd p l e (zRm 8 0 125) s m args below meth c 11 z0 b (I2 z0 b D cA 0 s) (c2 0 0) (zQ2 below z0 b D cA Kn args s 0) 105 (bL_areShownSo_105 i Kn K76 K238 K260) := by
  obtain ⟨hx, hb, hml, hown, hts, -⟩ := id C
  unfold bL_areShownSo_105
  refine k_istore hx hb dL_areShownSo_105 ?_
  refine k_aload_n hx hb dL_areShownSo_107 rfl ?_
  refine k_iload_n hx hb dL_areShownSo_108 rfl ?_
  refine k_iload hx hb dL_areShownSo_109 ?_
  refine k_rd2 C (i := i) (MB := 0) (g := (fun x0 x1 μ => gReason μ x0 x1)) (wp := w21) (fun z0 N => mX5_reason hlt) (fun x0 x1 σ μ h => sim_reason h) w21_n (fun x0 x1 μ => ro_reason) rfl zlL_102 zmX5_reason zvX5_reason ziX5 zcX5_reason (by decide +kernel) ⟨Nat.le_of_ble_eq_true rfl, Nat.le_of_ble_eq_true rfl⟩ ⟨Nat.le_of_ble_eq_true rfl, Nat.le_of_ble_eq_true rfl⟩ dL_areShownSo_111 ?_
  refine k_istore hx hb dL_areShownSo_114 ?_
  refine k_iload_n hx hb dL_areShownSo_116 rfl ?_
  refine k_iload hx hb dL_areShownSo_117 ?_
  refine k_ishr hx hb dL_areShownSo_119 ?_
  refine k_iconst hx hb dL_areShownSo_120 (by decide) ?_
  refine k_iand hx hb dL_areShownSo_121 ?_
  refine k_iconst hx hb dL_areShownSo_122 (by decide) ?_
  refine k_icmp_ne (tgt := 130) hx hb dL_areShownSo_123 (by decide) ?_ ?_
  · refine k_iconst hx hb dL_areShownSo_130 (by decide) ?_
    exact sL_areShownSo_131 hlt C hr hK76 hK238 hK260
  · refine k_iconst hx hb dL_areShownSo_126 (by decide) ?_
    refine k_goto (tgt := 131) hx hb dL_areShownSo_127 (by decide) ?_
    exact sL_areShownSo_131 hlt C hr hK76 hK238 hK260
set_option maxRecDepth 20000 in
theorem sL_areShownSo_76 {l : Launch} {z0 b : Nat} {D : va_G} {cA : Nat → ClassId} {p : Program} {e : Env} {s : State} {m : MethodId} {args : Array Value} {below : List Frame} {meth : Method} {c : Code} {Kn : QK} {K76 K238 K260 : ZK QQ} {i : Bool} (hlt : l.stackTraces = false) (C : zCx p l (zRm 8 0 125) s m args meth c cL_areShownSo 11 RL z0 D cA 0) (hr : meth.sig.returnType = (some .boolean)) (hK76 : Snd p l e (zRm 8 0 125) s m args below meth c 11 z0 b (I2 z0 b D cA 0 s) (c2 0 0) (zQ2 below z0 b D cA Kn args s 0) 76 K76) (hK238 : Snd p l e (zRm 8 0 125) s m args below meth c 11 z0 b (I2 z0 b D cA 0 s) (c2 0 0) (zQ2 below z0 b D cA Kn args s 0) 238 K238) (hK260 : Snd p l e (zRm 8 0 125) s m args below meth c 11 z0 b (I2 z0 b D cA 0 s) (c2 0 0) (zQ2 below z0 b D cA Kn args s 0) 260 K260) : Snd p l e (zRm 8 0 125) s m args below meth c 11 z0 b (I2 z0 b D cA 0 s) (c2 0 0) (zQ2 below z0 b D cA Kn args s 0) 76 (bL_areShownSo_76 i Kn K76 K238 K260) := by
  obtain ⟨hx, hb, hml, hown, hts, -⟩ := id C
  unfold bL_areShownSo_76
  refine k_iload hx hb dL_areShownSo_76 ?_
  refine k_aload_n hx hb dL_areShownSo_78 rfl ?_
  refine k_rd0 C (i := i) (MB := 0) (g := (fun μ => gTags μ)) (wp := w11) (fun z0 N => mX5_tags hlt) (fun σ μ h => sim_tags h) w11_n (fun μ => ro_tags) rfl zlL_63 zmX5_tags zvX5_tags ziX5 zcX5_tags (by decide +kernel) ⟨Nat.le_of_ble_eq_true rfl, Nat.le_of_ble_eq_true rfl⟩ ⟨Nat.le_of_ble_eq_true rfl, Nat.le_of_ble_eq_true rfl⟩ dL_areShownSo_79 ?_
  refine k_icmp_ge (tgt := 335) hx hb dL_areShownSo_82 (by decide) ?_ ?_
  · exact sL_areShownSo_335 hlt C hr hK76 hK238 hK260
  · refine k_iload hx hb dL_areShownSo_85 ?_
    refine k_if_eq (tgt := 335) hx hb dL_areShownSo_87 (by decide) ?_ ?_
    · exact sL_areShownSo_335 hlt C hr hK76 hK238 hK260
    · refine k_iload_n hx hb dL_areShownSo_90 rfl ?_
      refine k_iload hx hb dL_areShownSo_91 ?_
      refine k_ishr hx hb dL_areShownSo_93 ?_
      refine k_iconst hx hb dL_areShownSo_94 (by decide) ?_
      refine k_iand hx hb dL_areShownSo_95 ?_
      refine k_iconst hx hb dL_areShownSo_96 (by decide) ?_
      refine k_icmp_ne (tgt := 104) hx hb dL_areShownSo_97 (by decide) ?_ ?_
      · refine k_iconst hx hb dL_areShownSo_104 (by decide) ?_
        exact sL_areShownSo_105 hlt C hr hK76 hK238 hK260
      · refine k_iconst hx hb dL_areShownSo_100 (by decide) ?_
        refine k_goto (tgt := 105) hx hb dL_areShownSo_101 (by decide) ?_
        exact sL_areShownSo_105 hlt C hr hK76 hK238 hK260
set_option maxRecDepth 20000 in
theorem sL_areShownSo_71 {l : Launch} {z0 b : Nat} {D : va_G} {cA : Nat → ClassId} {p : Program} {e : Env} {s : State} {m : MethodId} {args : Array Value} {below : List Frame} {meth : Method} {c : Code} {Kn : QK} {K76 K238 K260 : ZK QQ} {i : Bool} (hlt : l.stackTraces = false) (C : zCx p l (zRm 8 0 125) s m args meth c cL_areShownSo 11 RL z0 D cA 0) (hr : meth.sig.returnType = (some .boolean)) (hK76 : Snd p l e (zRm 8 0 125) s m args below meth c 11 z0 b (I2 z0 b D cA 0 s) (c2 0 0) (zQ2 below z0 b D cA Kn args s 0) 76 K76) (hK238 : Snd p l e (zRm 8 0 125) s m args below meth c 11 z0 b (I2 z0 b D cA 0 s) (c2 0 0) (zQ2 below z0 b D cA Kn args s 0) 238 K238) (hK260 : Snd p l e (zRm 8 0 125) s m args below meth c 11 z0 b (I2 z0 b D cA 0 s) (c2 0 0) (zQ2 below z0 b D cA Kn args s 0) 260 K260) : Snd p l e (zRm 8 0 125) s m args below meth c 11 z0 b (I2 z0 b D cA 0 s) (c2 0 0) (zQ2 below z0 b D cA Kn args s 0) 71 (bL_areShownSo_71 i Kn K76 K238 K260) := by
  obtain ⟨hx, hb, hml, hown, hts, -⟩ := id C
  unfold bL_areShownSo_71
  refine k_istore hx hb dL_areShownSo_71 ?_
  refine k_iconst hx hb dL_areShownSo_73 (by decide) ?_
  refine k_istore hx hb dL_areShownSo_74 ?_
  exact hK76
set_option maxRecDepth 20000 in
theorem sL_areShownSo_70 {l : Launch} {z0 b : Nat} {D : va_G} {cA : Nat → ClassId} {p : Program} {e : Env} {s : State} {m : MethodId} {args : Array Value} {below : List Frame} {meth : Method} {c : Code} {Kn : QK} {K76 K238 K260 : ZK QQ} {i : Bool} (hlt : l.stackTraces = false) (C : zCx p l (zRm 8 0 125) s m args meth c cL_areShownSo 11 RL z0 D cA 0) (hr : meth.sig.returnType = (some .boolean)) (hK76 : Snd p l e (zRm 8 0 125) s m args below meth c 11 z0 b (I2 z0 b D cA 0 s) (c2 0 0) (zQ2 below z0 b D cA Kn args s 0) 76 K76) (hK238 : Snd p l e (zRm 8 0 125) s m args below meth c 11 z0 b (I2 z0 b D cA 0 s) (c2 0 0) (zQ2 below z0 b D cA Kn args s 0) 238 K238) (hK260 : Snd p l e (zRm 8 0 125) s m args below meth c 11 z0 b (I2 z0 b D cA 0 s) (c2 0 0) (zQ2 below z0 b D cA Kn args s 0) 260 K260) : Snd p l e (zRm 8 0 125) s m args below meth c 11 z0 b (I2 z0 b D cA 0 s) (c2 0 0) (zQ2 below z0 b D cA Kn args s 0) 70 (bL_areShownSo_70 i Kn K76 K238 K260) := by
  obtain ⟨hx, hb, hml, hown, hts, -⟩ := id C
  unfold bL_areShownSo_70
  refine k_iconst hx hb dL_areShownSo_70 (by decide) ?_
  exact sL_areShownSo_71 hlt C hr hK76 hK238 hK260
set_option maxRecDepth 20000 in
theorem sL_areShownSo_63 {l : Launch} {z0 b : Nat} {D : va_G} {cA : Nat → ClassId} {p : Program} {e : Env} {s : State} {m : MethodId} {args : Array Value} {below : List Frame} {meth : Method} {c : Code} {Kn : QK} {K76 K238 K260 : ZK QQ} {i : Bool} (hlt : l.stackTraces = false) (C : zCx p l (zRm 8 0 125) s m args meth c cL_areShownSo 11 RL z0 D cA 0) (hr : meth.sig.returnType = (some .boolean)) (hK76 : Snd p l e (zRm 8 0 125) s m args below meth c 11 z0 b (I2 z0 b D cA 0 s) (c2 0 0) (zQ2 below z0 b D cA Kn args s 0) 76 K76) (hK238 : Snd p l e (zRm 8 0 125) s m args below meth c 11 z0 b (I2 z0 b D cA 0 s) (c2 0 0) (zQ2 below z0 b D cA Kn args s 0) 238 K238) (hK260 : Snd p l e (zRm 8 0 125) s m args below meth c 11 z0 b (I2 z0 b D cA 0 s) (c2 0 0) (zQ2 below z0 b D cA Kn args s 0) 260 K260) : Snd p l e (zRm 8 0 125) s m args below meth c 11 z0 b (I2 z0 b D cA 0 s) (c2 0 0) (zQ2 below z0 b D cA Kn args s 0) 63 (bL_areShownSo_63 i Kn K76 K238 K260) := by
  obtain ⟨hx, hb, hml, hown, hts, -⟩ := id C
  unfold bL_areShownSo_63
  refine k_icmp_ne (tgt := 70) hx hb dL_areShownSo_63 (by decide) ?_ ?_
  · exact sL_areShownSo_70 hlt C hr hK76 hK238 hK260
  · refine k_iconst hx hb dL_areShownSo_66 (by decide) ?_
    refine k_goto (tgt := 71) hx hb dL_areShownSo_67 (by decide) ?_
    exact sL_areShownSo_71 hlt C hr hK76 hK238 hK260
set_option maxRecDepth 20000 in
theorem sL_areShownSo_54 {l : Launch} {z0 b : Nat} {D : va_G} {cA : Nat → ClassId} {p : Program} {e : Env} {s : State} {m : MethodId} {args : Array Value} {below : List Frame} {meth : Method} {c : Code} {Kn : QK} {K76 K238 K260 : ZK QQ} {i : Bool} (hlt : l.stackTraces = false) (C : zCx p l (zRm 8 0 125) s m args meth c cL_areShownSo 11 RL z0 D cA 0) (hr : meth.sig.returnType = (some .boolean)) (hK76 : Snd p l e (zRm 8 0 125) s m args below meth c 11 z0 b (I2 z0 b D cA 0 s) (c2 0 0) (zQ2 below z0 b D cA Kn args s 0) 76 K76) (hK238 : Snd p l e (zRm 8 0 125) s m args below meth c 11 z0 b (I2 z0 b D cA 0 s) (c2 0 0) (zQ2 below z0 b D cA Kn args s 0) 238 K238) (hK260 : Snd p l e (zRm 8 0 125) s m args below meth c 11 z0 b (I2 z0 b D cA 0 s) (c2 0 0) (zQ2 below z0 b D cA Kn args s 0) 260 K260) : Snd p l e (zRm 8 0 125) s m args below meth c 11 z0 b (I2 z0 b D cA 0 s) (c2 0 0) (zQ2 below z0 b D cA Kn args s 0) 54 (bL_areShownSo_54 i Kn K76 K238 K260) := by
  obtain ⟨hx, hb, hml, hown, hts, -⟩ := id C
  unfold bL_areShownSo_54
  refine k_iload_n hx hb dL_areShownSo_54 rfl ?_
  refine k_if_ne (tgt := 62) hx hb dL_areShownSo_55 (by decide) ?_ ?_
  · refine k_iconst hx hb dL_areShownSo_62 (by decide) ?_
    exact sL_areShownSo_63 hlt C hr hK76 hK238 hK260
  · refine k_iconst hx hb dL_areShownSo_58 (by decide) ?_
    refine k_goto (tgt := 63) hx hb dL_areShownSo_59 (by decide) ?_
    exact sL_areShownSo_63 hlt C hr hK76 hK238 hK260
set_option maxRecDepth 20000 in
theorem sL_areShownSo_0 {l : Launch} {z0 b : Nat} {D : va_G} {cA : Nat → ClassId} {p : Program} {e : Env} {s : State} {m : MethodId} {args : Array Value} {below : List Frame} {meth : Method} {c : Code} {Kn : QK} {K76 K238 K260 : ZK QQ} {i : Bool} (hlt : l.stackTraces = false) (C : zCx p l (zRm 8 0 125) s m args meth c cL_areShownSo 11 RL z0 D cA 0) (hr : meth.sig.returnType = (some .boolean)) (hK76 : Snd p l e (zRm 8 0 125) s m args below meth c 11 z0 b (I2 z0 b D cA 0 s) (c2 0 0) (zQ2 below z0 b D cA Kn args s 0) 76 K76) (hK238 : Snd p l e (zRm 8 0 125) s m args below meth c 11 z0 b (I2 z0 b D cA 0 s) (c2 0 0) (zQ2 below z0 b D cA Kn args s 0) 238 K238) (hK260 : Snd p l e (zRm 8 0 125) s m args below meth c 11 z0 b (I2 z0 b D cA 0 s) (c2 0 0) (zQ2 below z0 b D cA Kn args s 0) 260 K260) : Snd p l e (zRm 8 0 125) s m args below meth c 11 z0 b (I2 z0 b D cA 0 s) (c2 0 0) (zQ2 below z0 b D cA Kn args s 0) 0 (bL_areShownSo_0 i Kn K76 K238 K260) := by
  obtain ⟨hx, hb, hml, hown, hts, -⟩ := id C
  unfold bL_areShownSo_0
  refine k_aload_n hx hb dL_areShownSo_0 rfl ?_
  refine k_iload_n hx hb dL_areShownSo_1 rfl ?_
  refine k_rd1 C (i := i) (MB := 0) (g := (fun x0 μ => gShown μ x0)) (wp := w21) (fun z0 N => mX5_shown hlt) (fun x0 σ μ h => sim_shown h) w21_n (fun x0 μ => ro_shown) rfl zlL_93 zmX5_shown zvX5_shown ziX5 zcX5_shown (by decide +kernel) ⟨Nat.le_of_ble_eq_true rfl, Nat.le_of_ble_eq_true rfl⟩ ⟨Nat.le_of_ble_eq_true rfl, Nat.le_of_ble_eq_true rfl⟩ dL_areShownSo_2 ?_
  refine k_istore_n hx hb dL_areShownSo_5 rfl ?_
  refine k_aload_n hx hb dL_areShownSo_6 rfl ?_
  refine k_iload_n hx hb dL_areShownSo_7 rfl ?_
  refine k_rd1 C (i := i) (MB := 0) (g := (fun x0 μ => gHand μ x0)) (wp := w21) (fun z0 N => mX5_hand hlt) (fun x0 σ μ h => sim_hand h) w21_n (fun x0 μ => ro_hand) rfl zlL_90 zmX5_hand zvX5_hand ziX5 zcX5_hand (by decide +kernel) ⟨Nat.le_of_ble_eq_true rfl, Nat.le_of_ble_eq_true rfl⟩ ⟨Nat.le_of_ble_eq_true rfl, Nat.le_of_ble_eq_true rfl⟩ dL_areShownSo_8 ?_
  refine k_istore_n hx hb dL_areShownSo_11 rfl ?_
  refine k_aload_n hx hb dL_areShownSo_12 rfl ?_
  refine k_iload_n hx hb dL_areShownSo_13 rfl ?_
  refine k_rd1 C (i := i) (MB := 0) (g := (fun x0 μ => gShown μ x0)) (wp := w21) (fun z0 N => mX5_shownByHand hlt) (fun x0 σ μ h => sim_shownByHand h) w21_n (fun x0 μ => ro_shownByHand) rfl zlL_99 zmX5_shownByHand zvX5_shownByHand ziX5 zcX5_shownByHand (by decide +kernel) ⟨Nat.le_of_ble_eq_true rfl, Nat.le_of_ble_eq_true rfl⟩ ⟨Nat.le_of_ble_eq_true rfl, Nat.le_of_ble_eq_true rfl⟩ dL_areShownSo_14 ?_
  refine k_iload_n hx hb dL_areShownSo_17 rfl ?_
  refine k_icmp_ne (tgt := 70) hx hb dL_areShownSo_18 (by decide) ?_ ?_
  · exact sL_areShownSo_70 hlt C hr hK76 hK238 hK260
  · refine k_iload_n hx hb dL_areShownSo_21 rfl ?_
    refine k_if_lt (tgt := 70) hx hb dL_areShownSo_22 (by decide) ?_ ?_
    · exact sL_areShownSo_70 hlt C hr hK76 hK238 hK260
    · refine k_iload_n hx hb dL_areShownSo_25 rfl ?_
      refine k_iconst hx hb dL_areShownSo_26 (by decide) ?_
      refine k_aload_n hx hb dL_areShownSo_27 rfl ?_
      refine k_rd0 C (i := i) (MB := 0) (g := (fun μ => gTags μ)) (wp := w11) (fun z0 N => mX5_tags hlt) (fun σ μ h => sim_tags h) w11_n (fun μ => ro_tags) rfl zlL_63 zmX5_tags zvX5_tags ziX5 zcX5_tags (by decide +kernel) ⟨Nat.le_of_ble_eq_true rfl, Nat.le_of_ble_eq_true rfl⟩ ⟨Nat.le_of_ble_eq_true rfl, Nat.le_of_ble_eq_true rfl⟩ dL_areShownSo_28 ?_
      refine k_ishl hx hb dL_areShownSo_31 ?_
      refine k_icmp_ge (tgt := 70) hx hb dL_areShownSo_32 (by decide) ?_ ?_
      · exact sL_areShownSo_70 hlt C hr hK76 hK238 hK260
      · refine k_iload_n hx hb dL_areShownSo_35 rfl ?_
        refine k_iconst hx hb dL_areShownSo_36 (by decide) ?_
        refine k_aload_n hx hb dL_areShownSo_37 rfl ?_
        refine k_rd0 C (i := i) (MB := 0) (g := (fun μ => gTags μ)) (wp := w11) (fun z0 N => mX5_tags hlt) (fun σ μ h => sim_tags h) w11_n (fun μ => ro_tags) rfl zlL_63 zmX5_tags zvX5_tags ziX5 zcX5_tags (by decide +kernel) ⟨Nat.le_of_ble_eq_true rfl, Nat.le_of_ble_eq_true rfl⟩ ⟨Nat.le_of_ble_eq_true rfl, Nat.le_of_ble_eq_true rfl⟩ dL_areShownSo_38 ?_
        refine k_ishl hx hb dL_areShownSo_41 ?_
        refine k_icmp_ge (tgt := 70) hx hb dL_areShownSo_42 (by decide) ?_ ?_
        · exact sL_areShownSo_70 hlt C hr hK76 hK238 hK260
        · refine k_iload_n hx hb dL_areShownSo_45 rfl ?_
          refine k_if_ne (tgt := 53) hx hb dL_areShownSo_46 (by decide) ?_ ?_
          · refine k_iconst hx hb dL_areShownSo_53 (by decide) ?_
            exact sL_areShownSo_54 hlt C hr hK76 hK238 hK260
          · refine k_iconst hx hb dL_areShownSo_49 (by decide) ?_
            refine k_goto (tgt := 54) hx hb dL_areShownSo_50 (by decide) ?_
            exact sL_areShownSo_54 hlt C hr hK76 hK238 hK260
set_option maxRecDepth 20000 in
theorem uL_areShownSo {l : Launch} {z0 b : Nat} {D : va_G} {cA : Nat → ClassId} (hlt : l.stackTraces = false) (spec : ∀ (a : List Value) (μ ν : zMS) (Kn : QK), zok 2 a = true → tL_areShownSo a μ ν Kn → ∃ i : Bool, ∀ (A : Nat → ZK QQ), (∀ ls st t', bL_areShownSo_76 i Kn (A 76) (A 238) (A 260) ls st t' → A 76 ls st t') → (∀ ls st t', bL_areShownSo_238 i Kn (A 76) (A 238) (A 260) ls st t' → A 238 ls st t') → (∀ ls st t', bL_areShownSo_260 i Kn (A 76) (A 238) (A 260) ls st t' → A 260 ls st t') → bL_areShownSo_0 i Kn (A 76) (A 238) (A 260) (zE 11 a) [] (μ, ν, 0, 0)) : SemL l z0 b D cA yL_areShownSo (Cond.code yL_areShownSo cL_areShownSo 11 (some .boolean)) 8 125 2 0 tL_areShownSo := by
  refine semL_of hlt (by decide +kernel) (by decide) (fun p e s m args below meth c a μ ν Kn hok hN C hr => ?_)
  obtain ⟨i, hi⟩ := spec a μ ν Kn hok hN
  exact sL_areShownSo_0 (i := i) hlt C hr (fun _ _ _ q => q) (fun _ _ _ q => q) (fun _ _ _ q => q) _ _ _ (hi (fun pc => AW p l e (zRm 8 0 125) s m args below meth c 11 z0 b (I2 z0 b D cA 0 s) (c2 0 0) (zQ2 below z0 b D cA Kn args s 0) pc) (fun ls st t' hq => sL_areShownSo_76 (i := i) hlt C hr (fun _ _ _ q => q) (fun _ _ _ q => q) (fun _ _ _ q => q) ls st t' hq) (fun ls st t' hq => sL_areShownSo_238 (i := i) hlt C hr (fun _ _ _ q => q) (fun _ _ _ q => q) (fun _ _ _ q => q) ls st t' hq) (fun ls st t' hq => sL_areShownSo_260 (i := i) hlt C hr (fun _ _ _ q => q) (fun _ _ _ q => q) (fun _ _ _ q => q) ls st t' hq))
