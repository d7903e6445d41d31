def bL_areCountedSo_247 (i : Bool) (Kn : QK) (K63 K116 : ZK QQ) : ZK QQ := (o_ret2 30 .boolean Kn)
def bL_areCountedSo_246 (i : Bool) (Kn : QK) (K63 K116 : ZK QQ) : ZK QQ := (o_ic (0) (bL_areCountedSo_247 i Kn K63 K116))
def bL_areCountedSo_242 (i : Bool) (Kn : QK) (K63 K116 : ZK QQ) : ZK QQ := (o_ic (1) (bL_areCountedSo_247 i Kn K63 K116))
def bL_areCountedSo_203 (i : Bool) (Kn : QK) (K63 K116 : ZK QQ) : ZK QQ := (o_iload 6 (o_if1 (fun x => x = 0) (bL_areCountedSo_246 i Kn K63 K116) (o_aload 0 (o_iload 1 (o_ic (0) (o_ic (0) (o_rd3 i 30 (fun x0 x1 x2 μ => gCount μ x0 x1 x2) (o_iload 4 (o_if2 (fun x y => x < y) (bL_areCountedSo_246 i Kn K63 K116) (o_iload 3 (o_if1 (fun x => ¬ x = 0) (bL_areCountedSo_242 i Kn K63 K116) (o_iload 2 (o_if1 (fun x => ¬ x = 0) (bL_areCountedSo_242 i Kn K63 K116) (o_aload 0 (o_ic (0) (o_ic (0) (o_ic (0) (o_rd3 i 30 (fun x0 x1 x2 μ => gCount μ x0 x1 x2) (o_aload 0 (o_rd0 i 30 (fun μ => gThings μ) (o_if2 (fun x y => ¬ x = y) (bL_areCountedSo_246 i Kn K63 K116) (bL_areCountedSo_242 i Kn K63 K116))))))))))))))))))))))
def bL_areCountedSo_197 (i : Bool) (Kn : QK) (K63 K116 : ZK QQ) : ZK QQ := (o_iinc 7 (1) K63)
def bL_areCountedSo_189 (i : Bool) (Kn : QK) (K63 K116 : ZK QQ) : ZK QQ := (o_istore 6 (o_iinc 9 (1) K116))
def bL_areCountedSo_188 (i : Bool) (Kn : QK) (K63 K116 : ZK QQ) : ZK QQ := (o_ic (0) (bL_areCountedSo_189 i Kn K63 K116))
def bL_areCountedSo_184 (i : Bool) (Kn : QK) (K63 K116 : ZK QQ) : ZK QQ := (o_ic (1) (bL_areCountedSo_189 i Kn K63 K116))
def bL_areCountedSo_170 (i : Bool) (Kn : QK) (K63 K116 : ZK QQ) : ZK QQ := (o_iload 3 (o_iload 9 (o_bin (fun x y => x >>> (y &&& 31)) (o_ic (1) (o_bin (fun x y => x &&& y) (o_if1 (fun x => x = 0) (bL_areCountedSo_184 i Kn K63 K116) (o_iload 10 (o_if1 (fun x => ¬ x = 0) (bL_areCountedSo_188 i Kn K63 K116) (bL_areCountedSo_184 i Kn K63 K116)))))))))
def bL_areCountedSo_154 (i : Bool) (Kn : QK) (K63 K116 : ZK QQ) : ZK QQ := (o_istore 10 (o_iload 1 (o_iload 9 (o_bin (fun x y => x >>> (y &&& 31)) (o_ic (1) (o_bin (fun x y => x &&& y) (o_if1 (fun x => x = 0) (bL_areCountedSo_170 i Kn K63 K116) (o_iload 10 (o_if1 (fun x => x = 0) (bL_areCountedSo_188 i Kn K63 K116) (bL_areCountedSo_170 i Kn K63 K116))))))))))
def bL_areCountedSo_116 (i : Bool) (Kn : QK) (K63 K116 : ZK QQ) : ZK QQ := (o_iload 9 (o_aload 0 (o_rd0 i 30 (fun μ => gTags μ) (o_if2 (fun x y => y ≤ x) (bL_areCountedSo_197 i Kn K63 K116) (o_iload 6 (o_if1 (fun x => x = 0) (bL_areCountedSo_197 i Kn K63 K116) (o_aload 0 (o_iload 8 (o_rd1 i 30 (fun x0 μ => gShown μ x0) (o_aload 0 (o_iload 9 (o_rd1 i 30 (fun x0 μ => gEnd μ x0) (o_bin (fun x y => x >>> (y &&& 31)) (o_ic (1) (o_bin (fun x y => x &&& y) (o_ic (1) (o_if2 (fun x y => ¬ x = y) (o_ic (0) (bL_areCountedSo_154 i Kn K63 K116)) (o_ic (1) (bL_areCountedSo_154 i Kn K63 K116)))))))))))))))))))
def bL_areCountedSo_107 (i : Bool) (Kn : QK) (K63 K116 : ZK QQ) : ZK QQ := (o_istore 6 (o_iload 8 (o_istore 5 (o_ic (0) (o_istore 9 K116)))))
def bL_areCountedSo_106 (i : Bool) (Kn : QK) (K63 K116 : ZK QQ) : ZK QQ := (o_ic (0) (bL_areCountedSo_107 i Kn K63 K116))
def bL_areCountedSo_63 (i : Bool) (Kn : QK) (K63 K116 : ZK QQ) : ZK QQ := (o_iload 7 (o_iload 4 (o_if2 (fun x y => y ≤ x) (bL_areCountedSo_203 i Kn K63 K116) (o_iload 6 (o_if1 (fun x => x = 0) (bL_areCountedSo_203 i Kn K63 K116) (o_aload 0 (o_iload 7 (o_iload 1 (o_iload 2 (o_iload 3 (o_cL 5 1 30 tL_match (o_istore 8 (o_iload 8 (o_iload 5 (o_if2 (fun x y => x ≤ y) (bL_areCountedSo_106 i Kn K63 K116) (o_iload 8 (o_aload 0 (o_rd0 i 30 (fun μ => gThings μ) (o_if2 (fun x y => y ≤ x) (bL_areCountedSo_106 i Kn K63 K116) (o_ic (1) (bL_areCountedSo_107 i Kn K63 K116)))))))))))))))))))))
def bL_areCountedSo_58 (i : Bool) (Kn : QK) (K63 K116 : ZK QQ) : ZK QQ := (o_istore 6 (o_ic (0) (o_istore 7 K63)))
def bL_areCountedSo_57 (i : Bool) (Kn : QK) (K63 K116 : ZK QQ) : ZK QQ := (o_ic (0) (bL_areCountedSo_58 i Kn K63 K116))
def bL_areCountedSo_0 (i : Bool) (Kn : QK) (K63 K116 : ZK QQ) : ZK QQ := (o_aload 0 (o_iload 1 (o_iload 2 (o_iload 3 (o_rd3 i 30 (fun x0 x1 x2 μ => gCount μ x0 x1 x2) (o_istore 4 (o_ic (-1) (o_istore 5 (o_iload 4 (o_if1 (fun x => x < 0) (bL_areCountedSo_57 i Kn K63 K116) (o_iload 4 (o_aload 0 (o_rd0 i 30 (fun μ => gThings μ) (o_if2 (fun x y => y < x) (bL_areCountedSo_57 i Kn K63 K116) (o_aload 0 (o_iload 4 (o_iload 1 (o_iload 2 (o_iload 3 (o_cL 5 1 30 tL_match (o_ic (-99999) (o_if2 (fun x y => ¬ x = y) (bL_areCountedSo_57 i Kn K63 K116) (o_aload 0 (o_ic (-1) (o_iload 1 (o_iload 2 (o_iload 3 (o_cL 5 1 30 tL_match (o_ic (-99999) (o_if2 (fun x y => ¬ x = y) (bL_areCountedSo_57 i Kn K63 K116) (o_ic (1) (bL_areCountedSo_58 i Kn K63 K116))))))))))))))))))))))))))))))))
set_option maxRecDepth 20000 in
theorem sL_areCountedSo_247 {l : Launch} {z0 b : Nat} {D : va_G} {cA : Nat → ClassId} {p : Program} {e : Env} {s : State} {m : MethodId} {args : Array Value} {below : List Frame} {meth : Method} {c : Code} {Kn : QK} {K63 K116 : ZK QQ} {i : Bool} (hlt : l.stackTraces = false) (C : zCx p l (zRm 9 30 155) s m args meth c cL_areCountedSo 11 RL z0 D cA 0) (hr : meth.sig.returnType = (some .boolean)) (HL_match : SemL l z0 b D cA yL_match (Cond.codeWith yL_match cL_match 6 (some .int) [(0, 9, 10, 38)]) 8 130 5 1 tL_match) (hK63 : Snd p l e (zRm 9 30 155) s m args below meth c 11 z0 b (I2 z0 b D cA 0 s) (c2 0 0) (zQ2 below z0 b D cA Kn args s 30) 63 K63) (hK116 : Snd p l e (zRm 9 30 155) s m args below meth c 11 z0 b (I2 z0 b D cA 0 s) (c2 0 0) (zQ2 below z0 b D cA Kn args s 30) 116 K116) : Snd p l e (zRm 9 30 155) s m args below meth c 11 z0 b (I2 z0 b D cA 0 s) (c2 0 0) (zQ2 below z0 b D cA Kn args s 30) 247 (bL_areCountedSo_247 i Kn K63 K116) := by
  obtain ⟨hx, hb, hml, hown, hts, -⟩ := id C
  unfold bL_areCountedSo_247
  exact k_ret2 C hr dL_areCountedSo_247
set_option maxRecDepth 20000 in
theorem sL_areCountedSo_246 {l : Launch} {z0 b : Nat} {D : va_G} {cA : Nat → ClassId} {p : Program} {e : Env} {s : State} {m : MethodId} {args : Array Value} {below : List Frame} {meth : Method} {c : Code} {Kn : QK} {K63 K116 : ZK QQ} {i : Bool} (hlt : l.stackTraces = false) (C : zCx p l (zRm 9 30 155) s m args meth c cL_areCountedSo 11 RL z0 D cA 0) (hr : meth.sig.returnType = (some .boolean)) (HL_match : SemL l z0 b D cA yL_match (Cond.codeWith yL_match cL_match 6 (some .int) [(0, 9, 10, 38)]) 8 130 5 1 tL_match) (hK63 : Snd p l e (zRm 9 30 155) s m args below meth c 11 z0 b (I2 z0 b D cA 0 s) (c2 0 0) (zQ2 below z0 b D cA Kn args s 30) 63 K63) (hK116 : Snd p l e (zRm 9 30 155) s m args below meth c 11 z0 b (I2 z0 b D cA 0 s) (c2 0 0) (zQ2 below z0 b D cA Kn args s 30) 116 K116) : Snd p l e (zRm 9 30 155) s m args below meth c 11 z0 b (I2 z0 b D cA 0 s) (c2 0 0) (zQ2 below z0 b D cA Kn args s 30) 246 (bL_areCountedSo_246 i Kn K63 K116) := by
  obtain ⟨hx, hb, hml, hown, hts, -⟩ := id C
  unfold bL_areCountedSo_246
  refine k_iconst hx hb dL_areCountedSo_246 (by decide) ?_
  exact sL_areCountedSo_247 hlt C hr HL_match hK63 hK116
set_option maxRecDepth 20000 in
theorem sL_areCountedSo_242 {l : Launch} {z0 b : Nat} {D : va_G} {cA : Nat → ClassId} {p : Program} {e : Env} {s : State} {m : MethodId} {args : Array Value} {below : List Frame} {meth : Method} {c : Code} {Kn : QK} {K63 K116 : ZK QQ} {i : Bool} (hlt : l.stackTraces = false) (C : zCx p l (zRm 9 30 155) s m args meth c cL_areCountedSo 11 RL z0 D cA 0) (hr : meth.sig.returnType = (some .boolean)) (HL_match : SemL l z0 b D cA yL_match (Cond.codeWith yL_match cL_match 6 (some .int) [(0, 9, 10, 38)]) 8 130 5 1 tL_match) (hK63 : Snd p l e (zRm 9 30 155) s m args below meth c 11 z0 b (I2 z0 b D cA 0 s) (c2 0 0) (zQ2 below z0 b D cA Kn args s 30) 63 K63) (hK116 : Snd p l e (zRm 9 30 155) s m args below meth c 11 z0 b (I2 z0 b D cA 0 s) (c2 0 0) (zQ2 below z0 b D cA Kn args s 30) 116 K116) : Snd p l e (zRm 9 30 155) s m args below meth c 11 z0 b (I2 z0 b D cA 0 s) (c2 0 0) (zQ2 below z0 b D cA Kn args s 30) 242 (bL_areCountedSo_242 i Kn K63 K116) := by
  obtain ⟨hx, hb, hml, hown, hts, -⟩ := id C
  unfold bL_areCountedSo_242
  refine k_iconst hx hb dL_areCountedSo_242 (by decide) ?_
  refine k_goto (tgt := 247) hx hb dL_areCountedSo_243 (by decide) ?_
  exact sL_areCountedSo_247 hlt C hr HL_match hK63 hK116
set_option maxRecDepth 20000 in
theorem sL_areCountedSo_203 {l : Launch} {z0 b : Nat} {D : va_G} {cA : Nat → ClassId} {p : Program} {e : Env} {s : State} {m : MethodId} {args : Array Value} {below : List Frame} {meth : Method} {c : Code} {Kn : QK} {K63 K116 : ZK QQ} {i : Bool} (hlt : l.stackTraces = false) (C : zCx p l (zRm 9 30 155) s m args meth c cL_areCountedSo 11 RL z0 D cA 0) (hr : meth.sig.returnType = (some .boolean)) (HL_match : SemL l z0 b D cA yL_match (Cond.codeWith yL_match cL_match 6 (some .int) [(0, 9, 10, 38)]) 8 130 5 1 tL_match) (hK63 : Snd p l e (zRm 9 30 155) s m args below meth c 11 z0 b (I2 z0 b D cA 0 s) (c2 0 0) (zQ2 below z0 b D cA Kn args s 30) 63 K63) (hK116 : Snd p l e (zRm 9 30 155) s m args below meth c 11 z0 b (I2 z0 b D cA 0 s) (c2 0 0) (zQ2 below z0 b D cA Kn args s 30) 116 K116) : Snd p l e (zRm 9 30 155) s m args below meth c 11 z0 b (I2 z0 b D cA 0 s) (c2 0 0) (zQ2 below z0 b D cA Kn args s 30) 203 (bL_areCountedSo_203 i Kn K63 K116) := by
  obtain ⟨hx, hb, hml, hown, hts, -⟩ := id C
  unfold bL_areCountedSo_203
  refine k_iload hx hb dL_areCountedSo_203 ?_
  refine k_if_eq (tgt := 246) hx hb dL_areCountedSo_205 (by decide) ?_ ?_
  · exact sL_areCountedSo_246 hlt C hr HL_match hK63 hK116
  · refine k_aload_n hx hb dL_areCountedSo_208 rfl ?_
    refine k_iload_n hx hb dL_areCountedSo_209 rfl ?_
    refine k_iconst hx hb dL_areCountedSo_210 (by decide) ?_
    refine k_iconst hx hb dL_areCountedSo_211 (by decide) ?_
    refine k_rd3 C (i := i) (MB := 30) (g := (fun x0 x1 x2 μ => gCount μ x0 x1 x2)) (wp := w01) (fun z0 N => mX5_count hlt) (fun x0 x1 x2 σ μ h => sim_count h) w01_n (fun x0 x1 x2 μ => ro_count) rfl zlL_118 zmX5_count zvX5_count ziX5 zcX5_count (by decide +kernel) ⟨Nat.le_of_ble_eq_true rfl, Nat.le_of_ble_eq_true rfl⟩ ⟨Nat.le_of_ble_eq_true rfl, Nat.le_of_ble_eq_true rfl⟩ dL_areCountedSo_212 ?_
    refine k_iload hx hb dL_areCountedSo_215 ?_
    refine k_icmp_lt (tgt := 246) hx hb dL_areCountedSo_217 (by decide) ?_ ?_
    · exact sL_areCountedSo_246 hlt C hr HL_match hK63 hK116
    · refine k_iload_n hx hb dL_areCountedSo_220 rfl ?_
      refine k_if_ne (tgt := 242) hx hb dL_areCountedSo_221 (by decide) ?_ ?_
      · exact sL_areCountedSo_242 hlt C hr HL_match hK63 hK116
      · refine k_iload_n hx hb dL_areCountedSo_224 rfl ?_
        refine k_if_ne (tgt := 242) hx hb dL_areCountedSo_225 (by decide) ?_ ?_
        · exact sL_areCountedSo_242 hlt C hr HL_match hK63 hK116
        · refine k_aload_n hx hb dL_areCountedSo_228 rfl ?_
          refine k_iconst hx hb dL_areCountedSo_229 (by decide) ?_
          refine k_iconst hx hb dL_areCountedSo_230 (by decide) ?_
          refine k_iconst hx hb dL_areCountedSo_231 (by decide) ?_
          refine k_rd3 C (i := i) (MB := 30) (g := (fun x0 x1 x2 μ => gCount μ x0 x1 x2)) (wp := w01) (fun z0 N => mX5_count hlt) (fun x0 x1 x2 σ μ h => sim_count h) w01_n (fun x0 x1 x2 μ => ro_count) rfl zlL_118 zmX5_count zvX5_count ziX5 zcX5_count (by decide +kernel) ⟨Nat.le_of_ble_eq_true rfl, Nat.le_of_ble_eq_true rfl⟩ ⟨Nat.le_of_ble_eq_true rfl, Nat.le_of_ble_eq_true rfl⟩ dL_areCountedSo_232 ?_
          refine k_aload_n hx hb dL_areCountedSo_235 rfl ?_
          refine k_rd0 C (i := i) (MB := 30) (g := (fun μ => gThings μ)) (wp := w11) (fun z0 N => mX5_things hlt) (fun σ μ h => sim_things h) w11_n (fun μ => ro_things) rfl zlL_73 zmX5_things zvX5_things ziX5 zcX5_things (by decide +kernel) ⟨Nat.le_of_ble_eq_true rfl, Nat.le_of_ble_eq_true rfl⟩ ⟨Nat.le_of_ble_eq_true rfl, Nat.le_of_ble_eq_true rfl⟩ dL_areCountedSo_236 ?_
          refine k_icmp_ne (tgt := 246) hx hb dL_areCountedSo_239 (by decide) ?_ ?_
          · exact sL_areCountedSo_246 hlt C hr HL_match hK63 hK116
          · exact sL_areCountedSo_242 hlt C hr HL_match hK63 hK116
set_option maxRecDepth 20000 in
theorem sL_areCountedSo_197 {l : Launch} {z0 b : Nat} {D : va_G} {cA : Nat → ClassId} {p : Program} {e : Env} {s : State} {m : MethodId} {args : Array Value} {below : List Frame} {meth : Method} {c : Code} {Kn : QK} {K63 K116 : ZK QQ} {i : Bool} (hlt : l.stackTraces = false) (C : zCx p l (zRm 9 30 155) s m args meth c cL_areCountedSo 11 RL z0 D cA 0) (hr : meth.sig.returnType = (some .boolean)) (HL_match : SemL l z0 b D cA yL_match (Cond.codeWith yL_match cL_match 6 (some .int) [(0, 9, 10, 38)]) 8 130 5 1 tL_match) (hK63 : Snd p l e (zRm 9 30 155) s m args below meth c 11 z0 b (I2 z0 b D cA 0 s) (c2 0 0) (zQ2 below z0 b D cA Kn args s 30) 63 K63) (hK116 : Snd p l e (zRm 9 30 155) s m args below meth c 11 z0 b (I2 z0 b D cA 0 s) (c2 0 0) (zQ2 below z0 b D cA Kn args s 30) 116 K116) : Snd p l e (zRm 9 30 155) s m args below meth c 11 z0 b (I2 z0 b D cA 0 s) (c2 0 0) (zQ2 below z0 b D cA Kn args s 30) 197 (bL_areCountedSo_197 i Kn K63 K116) := by
  obtain ⟨hx, hb, hml, hown, hts, -⟩ := id C
  unfold bL_areCountedSo_197
  refine k_iinc hx hb dL_areCountedSo_197 (by decide) ?_
  refine k_goto (tgt := 63) hx hb dL_areCountedSo_200 (by decide) ?_
  exact hK63
set_option maxRecDepth 20000 in
theorem sL_areCountedSo_189 {l : Launch} {z0 b : Nat} {D : va_G} {cA : Nat → ClassId} {p : Program} {e : Env} {s : State} {m : MethodId} {args : Array Value} {below : List Frame} {meth : Method} {c : Code} {Kn : QK} {K63 K116 : ZK QQ} {i : Bool} (hlt : l.stackTraces = false) (C : zCx p l (zRm 9 30 155) s m args meth c cL_areCountedSo 11 RL z0 D cA 0) (hr : meth.sig.returnType = (some .boolean)) (HL_match : SemL l z0 b D cA yL_match (Cond.codeWith yL_match cL_match 6 (some .int) [(0, 9, 10, 38)]) 8 130 5 1 tL_match) (hK63 : Snd p l e (zRm 9 30 155) s m args below meth c 11 z0 b (I2 z0 b D cA 0 s) (c2 0 0) (zQ2 below z0 b D cA Kn args s 30) 63 K63) (hK116 : Snd p l e (zRm 9 30 155) s m args below meth c 11 z0 b (I2 z0 b D cA 0 s) (c2 0 0) (zQ2 below z0 b D cA Kn args s 30) 116 K116) : Snd p l e (zRm 9 30 155) s m args below meth c 11 z0 b (I2 z0 b D cA 0 s) (c2 0 0) (zQ2 below z0 b D cA Kn args s 30) 189 (bL_areCountedSo_189 i Kn K63 K116) := by
  obtain ⟨hx, hb, hml, hown, hts, -⟩ := id C
  unfold bL_areCountedSo_189
  refine k_istore hx hb dL_areCountedSo_189 ?_
  refine k_iinc hx hb dL_areCountedSo_191 (by decide) ?_
  refine k_goto (tgt := 116) hx hb dL_areCountedSo_194 (by decide) ?_
  exact hK116
set_option maxRecDepth 20000 in
theorem sL_areCountedSo_188 {l : Launch} {z0 b : Nat} {D : va_G} {cA : Nat → ClassId} {p : Program} {e : Env} {s : State} {m : MethodId} {args : Array Value} {below : List Frame} {meth : Method} {c : Code} {Kn : QK} {K63 K116 : ZK QQ} {i : Bool} (hlt : l.stackTraces = false) (C : zCx p l (zRm 9 30 155) s m args meth c cL_areCountedSo 11 RL z0 D cA 0) (hr : meth.sig.returnType = (some .boolean)) (HL_match : SemL l z0 b D cA yL_match (Cond.codeWith yL_match cL_match 6 (some .int) [(0, 9, 10, 38)]) 8 130 5 1 tL_match) (hK63 : Snd p l e (zRm 9 30 155) s m args below meth c 11 z0 b (I2 z0 b D cA 0 s) (c2 0 0) (zQ2 below z0 b D cA Kn args s 30) 63 K63) (hK116 : Snd p l e (zRm 9 30 155) s m args below meth c 11 z0 b (I2 z0 b D cA 0 s) (c2 0 0) (zQ2 below z0 b D cA Kn args s 30) 116 K116) : Snd p l e (zRm 9 30 155) s m args below meth c 11 z0 b (I2 z0 b D cA 0 s) (c2 0 0) (zQ2 below z0 b D cA Kn args s 30) 188 (bL_areCountedSo_188 i Kn K63 K116) := by
  obtain ⟨hx, hb, hml, hown, hts, -⟩ := id C
  unfold bL_areCountedSo_188
  refine k_iconst hx hb dL_areCountedSo_188 (by decide) ?_
  exact sL_areCountedSo_189 hlt C hr HL_match hK63 hK116
set_option maxRecDepth 20000 in
theorem sL_areCountedSo_184 {l : Launch} {z0 b : Nat} {D : va_G} {cA : Nat → ClassId} {p : Program} {e : Env} {s : State} {m : MethodId} {args : Array Value} {below : List Frame} {meth : Method} {c : Code} {Kn : QK} {K63 K116 : ZK QQ} {i : Bool} (hlt : l.stackTraces = false) (C : zCx p l (zRm 9 30 155) s m args meth c cL_areCountedSo 11 RL z0 D cA 0) (hr : meth.sig.returnType = (some .boolean)) (HL_match : SemL l z0 b D cA yL_match (Cond.codeWith yL_match cL_match 6 (some .int) [(0, 9, 10, 38)]) 8 130 5 1 tL_match) (hK63 : Snd p l e (zRm 9 30 155) s m args below meth c 11 z0 b (I2 z0 b D cA 0 s) (c2 0 0) (zQ2 below z0 b D cA Kn args s 30) 63 K63) (hK116 : Snd p l e (zRm 9 30 155) s m args below meth c 11 z0 b (I2 z0 b D cA 0 s) (c2 0 0) (zQ2 below z0 b D cA Kn args s 30) 116 K116) : Snd p l e (zRm 9 30 155) s m args below meth c 11 z0 b (I2 z0 b D cA 0 s) (c2 0 0) (zQ2 below z0 b D cA Kn args s 30) 184 (bL_areCountedSo_184 i Kn K63 K116) := by
  obtain ⟨hx, hb, hml, hown, hts, -⟩ := id C
  unfold bL_areCountedSo_184
  refine k_iconst hx hb dL_areCountedSo_184 (by decide) ?_
  refine k_goto (tgt := 189) hx hb dL_areCountedSo_185 (by decide) ?_
  exact sL_areCountedSo_189 hlt C hr HL_match hK63 hK116
set_option maxRecDepth 20000 in
theorem sL_areCountedSo_170 {l : Launch} {z0 b : Nat} {D : va_G} {cA : Nat → ClassId} {p : Program} {e : Env} {s : State} {m : MethodId} {args : Array Value} {below : List Frame} {meth : Method} {c : Code} {Kn : QK} {K63 K116 : ZK QQ} {i : Bool} (hlt : l.stackTraces = false) (C : zCx p l (zRm 9 30 155) s m args meth c cL_areCountedSo 11 RL z0 D cA 0) (hr : meth.sig.returnType = (some .boolean)) (HL_match : SemL l z0 b D cA yL_match (Cond.codeWith yL_match cL_match 6 (some .int) [(0, 9, 10, 38)]) 8 130 5 1 tL_match) (hK63 : Snd p l e (zRm 9 30 155) s m args below meth c 11 z0 b (I2 z0 b D cA 0 s) (c2 0 0) (zQ2 below z0 b D cA Kn args s 30) 63 K63) (hK116 : Snd p l e (zRm 9 30 155) s m args below meth c 11 z0 b (I2 z0 b D cA 0 s) (c2 0 0) (zQ2 below z0 b D cA Kn args s 30) 116 K116) : Snd p l e (zRm 9 30 155) s m args below meth c 11 z0 b (I2 z0 b D cA 0 s) (c2 0 0) (zQ2 below z0 b D cA Kn args s 30) 170 (bL_areCountedSo_170 i Kn K63 K116) := by
  obtain ⟨hx, hb, hml, hown, hts, -⟩ := id C
  unfold bL_areCountedSo_170
  refine k_iload_n hx hb dL_areCountedSo_170 rfl ?_
  refine k_iload hx hb dL_areCountedSo_171 ?_
  refine k_ishr hx hb dL_areCountedSo_173 ?_
  refine k_iconst hx hb dL_areCountedSo_174 (by decide) ?_
  refine k_iand hx hb dL_areCountedSo_175 ?_
  refine k_if_eq (tgt := 184) hx hb dL_areCountedSo_176 (by decide) ?_ ?_
  · exact sL_areCountedSo_184 hlt C hr HL_match hK63 hK116
  · refine k_iload hx hb dL_areCountedSo_179 ?_
    refine k_if_ne (tgt := 188) hx hb dL_areCountedSo_181 (by decide) ?_ ?_
    · exact sL_areCountedSo_188 hlt C hr HL_match hK63 hK116
    · exact sL_areCountedSo_184 hlt C hr HL_match hK63 hK116
set_option maxRecDepth 20000 in
theorem sL_areCountedSo_154 {l : Launch} {z0 b : Nat} {D : va_G} {cA : Nat → ClassId} {p : Program} {e : Env} {s : State} {m : MethodId} {args : Array Value} {below : List Frame} {meth : Method} {c : Code} {Kn : QK} {K63 K116 : ZK QQ} {i : Bool} (hlt : l.stackTraces = false) (C : zCx p l (zRm 9 30 155) s m args meth c cL_areCountedSo 11 RL z0 D cA 0) (hr : meth.sig.returnType = (some .boolean)) (HL_match : SemL l z0 b D cA yL_match (Cond.codeWith yL_match cL_match 6 (some .int) [(0, 9, 10, 38)]) 8 130 5 1 tL_match) (hK63 : Snd p l e (zRm 9 30 155) s m args below meth c 11 z0 b (I2 z0 b D cA 0 s) (c2 0 0) (zQ2 below z0 b D cA Kn args s 30) 63 K63) (hK116 : Snd p l e (zRm 9 30 155) s m args below meth c 11 z0 b (I2 z0 b D cA 0 s) (c2 0 0) (zQ2 below z0 b D cA Kn args s 30) 116 K116) : Snd p l e (zRm 9 30 155) s m args below meth c 11 z0 b (I2 z0 b D cA 0 s) (c2 0 0) (zQ2 below z0 b D cA Kn args s 30) 154 (bL_areCountedSo_154 i Kn K63 K116) := by
  obtain ⟨hx, hb, hml, hown, hts, -⟩ := id C
  unfold bL_areCountedSo_154
  refine k_istore hx hb dL_areCountedSo_154 ?_
  refine k_iload_n hx hb dL_areCountedSo_156 rfl ?_
  refine k_iload hx hb dL_areCountedSo_157 ?_
  refine k_ishr hx hb dL_areCountedSo_159 ?_
  refine k_iconst hx hb dL_areCountedSo_160 (by decide) ?_
  refine k_iand hx hb dL_areCountedSo_161 ?_
  refine k_if_eq (tgt := 170) hx hb dL_areCountedSo_162 (by decide) ?_ ?_
  · exact sL_areCountedSo_170 hlt C hr HL_match hK63 hK116
  · refine k_iload hx hb dL_areCountedSo_165 ?_
    refine k_if_eq (tgt := 188) hx hb dL_areCountedSo_167 (by decide) ?_ ?_
    · exact sL_areCountedSo_188 hlt C hr HL_match hK63 hK116
    · exact sL_areCountedSo_170 hlt C hr HL_match hK63 hK116
set_option maxRecDepth 20000 in
theorem sL_areCountedSo_116 {l : Launch} {z0 b : Nat} {D : va_G} {cA : Nat → ClassId} {p : Program} {e : Env} {s : State} {m : MethodId} {args : Array Value} {below : List Frame} {meth : Method} {c : Code} {Kn : QK} {K63 K116 : ZK QQ} {i : Bool} (hlt : l.stackTraces = false) (C : zCx p l (zRm 9 30 155) s m args meth c cL_areCountedSo 11 RL z0 D cA 0) (hr : meth.sig.returnType = (some .boolean)) (HL_match : SemL l z0 b D cA yL_match (Cond.codeWith yL_match cL_match 6 (some .int) [(0, 9, 10, 38)]) 8 130 5 1 tL_match) (hK63 : Snd p l e (zRm 9 30 155) s m args below meth c 11 z0 b (I2 z0 b D cA 0 s) (c2 0 0) (zQ2 below z0 b D cA Kn args s 30) 63 K63) (hK116 : Snd p l e (zRm 9 30 155) s m args below meth c 11 z0 b (I2 z0 b D cA 0 s) (c2 0 0) (zQ2 below z0 b D cA Kn args s 30) 116 K116) : Snd p l e (zRm 9 30 155) s m args below meth c 11 z0 b (I2 z0 b D cA 0 s) (c2 0 0) (zQ2 below z0 b D cA Kn args s 30) 116 (bL_areCountedSo_116 i Kn K63 K116) := by
  obtain ⟨hx, hb, hml, hown, hts, -⟩ := id C
  unfold bL_areCountedSo_116
  refine k_iload hx hb dL_areCountedSo_116 ?_
  refine k_aload_n hx hb dL_areCountedSo_118 rfl ?_
  refine k_rd0 C (i := i) (MB := 30) (g := (fun μ => gTags μ)) (wp := w11) (fun z0 N => mX5_tags hlt) (fun σ μ h => sim_tags h) w11_n (fun μ => ro_tags) rfl zlL_63 zmX5_tags zvX5_tags ziX5 zcX5_tags (by decide +kernel) ⟨Nat.le_of_ble_eq_true rfl, Nat.le_of_ble_eq_true rfl⟩ ⟨Nat.le_of_ble_eq_true rfl, Nat.le_of_ble_eq_true rfl⟩ dL_areCountedSo_119 ?_
  refine k_icmp_ge (tgt := 197) hx hb dL_areCountedSo_122 (by decide) ?_ ?_
  · exact sL_areCountedSo_197 hlt C hr HL_match hK63 hK116
  · refine k_iload hx hb dL_areCountedSo_125 ?_
    refine k_if_eq (tgt := 197) hx hb dL_areCountedSo_127 (by decide) ?_ ?_
    · exact sL_areCountedSo_197 hlt C hr HL_match hK63 hK116
    · refine k_aload_n hx hb dL_areCountedSo_130 rfl ?_
      refine k_iload hx hb dL_areCountedSo_131 ?_
      refine k_rd1 C (i := i) (MB := 30) (g := (fun x0 μ => gShown μ x0)) (wp := w21) (fun z0 N => mX5_shown hlt) (fun x0 σ μ h => sim_shown h) w21_n (fun x0 μ => ro_shown) rfl zlL_93 zmX5_shown zvX5_shown ziX5 zcX5_shown (by decide +kernel) ⟨Nat.le_of_ble_eq_true rfl, Nat.le_of_ble_eq_true rfl⟩ ⟨Nat.le_of_ble_eq_true rfl, Nat.le_of_ble_eq_true rfl⟩ dL_areCountedSo_133 ?_
      refine k_aload_n hx hb dL_areCountedSo_136 rfl ?_
      refine k_iload hx hb dL_areCountedSo_137 ?_
      refine k_rd1 C (i := i) (MB := 30) (g := (fun x0 μ => gEnd μ x0)) (wp := w21) (fun z0 N => mX5_end hlt) (fun x0 σ μ h => sim_end h) w21_n (fun x0 μ => ro_end) rfl zlL_105 zmX5_end zvX5_end ziX5 zcX5_end (by decide +kernel) ⟨Nat.le_of_ble_eq_true rfl, Nat.le_of_ble_eq_true rfl⟩ ⟨Nat.le_of_ble_eq_true rfl, Nat.le_of_ble_eq_true rfl⟩ dL_areCountedSo_139 ?_
      refine k_ishr hx hb dL_areCountedSo_142 ?_
      refine k_iconst hx hb dL_areCountedSo_143 (by decide) ?_
      refine k_iand hx hb dL_areCountedSo_144 ?_
      refine k_iconst hx hb dL_areCountedSo_145 (by decide) ?_
      refine k_icmp_ne (tgt := 153) hx hb dL_areCountedSo_146 (by decide) ?_ ?_
      · refine k_iconst hx hb dL_areCountedSo_153 (by decide) ?_
        exact sL_areCountedSo_154 hlt C hr HL_match hK63 hK116
      · refine k_iconst hx hb dL_areCountedSo_149 (by decide) ?_
        refine k_goto (tgt := 154) hx hb dL_areCountedSo_150 (by decide) ?_
        exact sL_areCountedSo_154 hlt C hr HL_match hK63 hK116
set_option maxRecDepth 20000 in
theorem sL_areCountedSo_107 {l : Launch} {z0 b : Nat} {D : va_G} {cA : Nat → ClassId} {p : Program} {e : Env} {s : State} {m : MethodId} {args : Array Value} {below : List Frame} {meth : Method} {c : Code} {Kn : QK} {K63 K116 : ZK QQ} {i : Bool} (hlt : l.stackTraces = false) (C : zCx p l (zRm 9 30 155) s m args meth c cL_areCountedSo 11 RL z0 D cA 0) (hr : meth.sig.returnType = (some .boolean)) (HL_match : SemL l z0 b D cA yL_match (Cond.codeWith yL_match cL_match 6 (some .int) [(0, 9, 10, 38)]) 8 130 5 1 tL_match) (hK63 : Snd p l e (zRm 9 30 155) s m args below meth c 11 z0 b (I2 z0 b D cA 0 s) (c2 0 0) (zQ2 below z0 b D cA Kn args s 30) 63 K63) (hK116 : Snd p l e (zRm 9 30 155) s m args below meth c 11 z0 b (I2 z0 b D cA 0 s) (c2 0 0) (zQ2 below z0 b D cA Kn args s 30) 116 K116) : Snd p l e (zRm 9 30 155) s m args below meth c 11 z0 b (I2 z0 b D cA 0 s) (c2 0 0) (zQ2 below z0 b D cA Kn args s 30) 107 (bL_areCountedSo_107 i Kn K63 K116) := by
  obtain ⟨hx, hb, hml, hown, hts, -⟩ := id C
  unfold bL_areCountedSo_107
  refine k_istore hx hb dL_areCountedSo_107 ?_
  refine k_iload hx hb dL_areCountedSo_109 ?_
  refine k_istore hx hb dL_areCountedSo_111 ?_
  refine k_iconst hx hb dL_areCountedSo_113 (by decide) ?_
  refine k_istore hx hb dL_areCountedSo_114 ?_
  exact hK116
set_option maxRecDepth 20000 in
theorem sL_areCountedSo_106 {l : Launch} {z0 b : Nat} {D : va_G} {cA : Nat → ClassId} {p : Program} {e : Env} {s : State} {m : MethodId} {args : Array Value} {below : List Frame} {meth : Method} {c : Code} {Kn : QK} {K63 K116 : ZK QQ} {i : Bool} (hlt : l.stackTraces = false) (C : zCx p l (zRm 9 30 155) s m args meth c cL_areCountedSo 11 RL z0 D cA 0) (hr : meth.sig.returnType = (some .boolean)) (HL_match : SemL l z0 b D cA yL_match (Cond.codeWith yL_match cL_match 6 (some .int) [(0, 9, 10, 38)]) 8 130 5 1 tL_match) (hK63 : Snd p l e (zRm 9 30 155) s m args below meth c 11 z0 b (I2 z0 b D cA 0 s) (c2 0 0) (zQ2 below z0 b D cA Kn args s 30) 63 K63) (hK116 : Snd p l e (zRm 9 30 155) s m args below meth c 11 z0 b (I2 z0 b D cA 0 s) (c2 0 0) (zQ2 below z0 b D cA Kn args s 30) 116 K116) : Snd p l e (zRm 9 30 155) s m args below meth c 11 z0 b (I2 z0 b D cA 0 s) (c2 0 0) (zQ2 below z0 b D cA Kn args s 30) 106 (bL_areCountedSo_106 i Kn K63 K116) := by
  obtain ⟨hx, hb, hml, hown, hts, -⟩ := id C
  unfold bL_areCountedSo_106
  refine k_iconst hx hb dL_areCountedSo_106 (by decide) ?_
  exact sL_areCountedSo_107 hlt C hr HL_match hK63 hK116
set_option maxRecDepth 20000 in
theorem sL_areCountedSo_63 {l : Launch} {z0 b : Nat} {D : va_G} {cA : Nat → ClassId} {p : Program} {e : Env} {s : State} {m : MethodId} {args : Array Value} {below : List Frame} {meth : Method} {c : Code} {Kn : QK} {K63 K116 : ZK QQ} {i : Bool} (hlt : l.stackTraces = false) (C : zCx p l (zRm 9 30 155) s m args meth c cL_areCountedSo 11 RL z0 D cA 0) (hr : meth.sig.returnType = (some .boolean)) (HL_match : SemL l z0 b D cA yL_match (Cond.codeWith yL_match cL_match 6 (some .int) [(0, 9, 10, 38)]) 8 130 5 1 tL_match) (hK63 : Snd p l e (zRm 9 30 155) s m args below meth c 11 z0 b (I2 z0 b D cA 0 s) (c2 0 0) (zQ2 below z0 b D cA Kn args s 30) 63 K63) (hK116 : Snd p l e (zRm 9 30 155) s m args below meth c 11 z0 b (I2 z0 b D cA 0 s) (c2 0 0) (zQ2 below z0 b D cA Kn args s 30) 116 K116) : Snd p l e (zRm 9 30 155) s m args below meth c 11 z0 b (I2 z0 b D cA 0 s) (c2 0 0) (zQ2 below z0 b D cA Kn args s 30) 63 (bL_areCountedSo_63 i Kn K63 K116) := by
  obtain ⟨hx, hb, hml, hown, hts, -⟩ := id C
  unfold bL_areCountedSo_63
  refine k_iload hx hb dL_areCountedSo_63 ?_
  refine k_iload hx hb dL_areCountedSo_65 ?_
  refine k_icmp_ge (tgt := 203) hx hb dL_areCountedSo_67 (by decide) ?_ ?_
  · exact sL_areCountedSo_203 hlt C hr HL_match hK63 hK116
  · refine k_iload hx hb dL_areCountedSo_70 ?_
    refine k_if_eq (tgt := 203) hx hb dL_areCountedSo_72 (by decide) ?_ ?_
    · exact sL_areCountedSo_203 hlt C hr HL_match hK63 hK116
    · refine k_aload_n hx hb dL_areCountedSo_75 rfl ?_
      refine k_iload hx hb dL_areCountedSo_76 ?_
      refine k_iload_n hx hb dL_areCountedSo_78 rfl ?_
      refine k_iload_n hx hb dL_areCountedSo_79 rfl ?_
      refine k_iload_n hx hb dL_areCountedSo_80 rfl ?_
      refine k_cLW C HL_match zlL_121 zsL_match ziL zwL_match (by decide +kernel) ⟨Nat.le_of_ble_eq_true rfl, Nat.le_of_ble_eq_true rfl⟩ ⟨Nat.le_of_ble_eq_true rfl, Nat.le_of_ble_eq_true rfl⟩ dL_areCountedSo_81 ?_
      refine k_istore hx hb dL_areCountedSo_84 ?_
      refine k_iload hx hb dL_areCountedSo_86 ?_
      refine k_iload hx hb dL_areCountedSo_88 ?_
      refine k_icmp_le (tgt := 106) hx hb dL_areCountedSo_90 (by decide) ?_ ?_
      · exact sL_areCountedSo_106 hlt C hr HL_match hK63 hK116
      · refine k_iload hx hb dL_areCountedSo_93 ?_
        refine k_aload_n hx hb dL_areCountedSo_95 rfl ?_
        refine k_rd0 C (i := i) (MB := 30) (g := (fun μ => gThings μ)) (wp := w11) (fun z0 N => mX5_things hlt) (fun σ μ h => sim_things h) w11_n (fun μ => ro_things) rfl zlL_73 zmX5_things zvX5_things ziX5 zcX5_things (by decide +kernel) ⟨Nat.le_of_ble_eq_true rfl, Nat.le_of_ble_eq_true rfl⟩ ⟨Nat.le_of_ble_eq_true rfl, Nat.le_of_ble_eq_true rfl⟩ dL_areCountedSo_96 ?_
        refine k_icmp_ge (tgt := 106) hx hb dL_areCountedSo_99 (by decide) ?_ ?_
        · exact sL_areCountedSo_106 hlt C hr HL_match hK63 hK116
        · refine k_iconst hx hb dL_areCountedSo_102 (by decide) ?_
          refine k_goto (tgt := 107) hx hb dL_areCountedSo_103 (by decide) ?_
          exact sL_areCountedSo_107 hlt C hr HL_match hK63 hK116
set_option maxRecDepth 20000 in
theorem sL_areCountedSo_58 {l : Launch} {z0 b : Nat} {D : va_G} {cA : Nat → ClassId} {p : Program} {e : Env} {s : State} {m : MethodId} {args : Array Value} {below : List Frame} {meth : Method} {c : Code} {Kn : QK} {K63 K116 : ZK QQ} {i : Bool} (hlt : l.stackTraces = false) (C : zCx p l (zRm 9 30 155) s m args meth c cL_areCountedSo 11 RL z0 D cA 0) (hr : meth.sig.returnType = (some .boolean)) (HL_match : SemL l z0 b D cA yL_match (Cond.codeWith yL_match cL_match 6 (some .int) [(0, 9, 10, 38)]) 8 130 5 1 tL_match) (hK63 : Snd p l e (zRm 9 30 155) s m args below meth c 11 z0 b (I2 z0 b D cA 0 s) (c2 0 0) (zQ2 below z0 b D cA Kn args s 30) 63 K63) (hK116 : Snd p l e (zRm 9 30 155) s m args below meth c 11 z0 b (I2 z0 b D cA 0 s) (c2 0 0) (zQ2 below z0 b D cA Kn args s 30) 116 K116) : Snd p l e (zRm 9 30 155) s m args below meth c 11 z0 b (I2 z0 b D cA 0 s) (c2 0 0) (zQ2 below z0 b D cA Kn args s 30) 58 (bL_areCountedSo_58 i Kn K63 K116) := by
  obtain ⟨hx, hb, hml, hown, hts, -⟩ := id C
  unfold bL_areCountedSo_58
  refine k_istore hx hb dL_areCountedSo_58 ?_
  refine k_iconst hx hb dL_areCountedSo_60 (by decide) ?_
  refine k_istore hx hb dL_areCountedSo_61 ?_
  exact hK63
set_option maxRecDepth 20000 in
theorem sL_areCountedSo_57 {l : Launch} {z0 b : Nat} {D : va_G} {cA : Nat → ClassId} {p : Program} {e : Env} {s : State} {m : MethodId} {args : Array Value} {below : List Frame} {meth : Method} {c : Code} {Kn : QK} {K63 K116 : ZK QQ} {i : Bool} (hlt : l.stackTraces = false) (C : zCx p l (zRm 9 30 155) s m args meth c cL_areCountedSo 11 RL z0 D cA 0) (hr : meth.sig.returnType = (some .boolean)) (HL_match : SemL l z0 b D cA yL_match (Cond.codeWith yL_match cL_match 6 (some .int) [(0, 9, 10, 38)]) 8 130 5 1 tL_match) (hK63 : Snd p l e (zRm 9 30 155) s m args below meth c 11 z0 b (I2 z0 b D cA 0 s) (c2 0 0) (zQ2 below z0 b D cA Kn args s 30) 63 K63) (hK116 : Snd p l e (zRm 9 30 155) s m args below meth c 11 z0 b (I2 z0 b D cA 0 s) (c2 0 0) (zQ2 below z0 b D cA Kn args s 30) 116 K116) : Snd p l e (zRm 9 30 155) s m args below meth c 11 z0 b (I2 z0 b D cA 0 s) (c2 0 0) (zQ2 below z0 b D cA Kn args s 30) 57 (bL_areCountedSo_57 i Kn K63 K116) := by
  obtain ⟨hx, hb, hml, hown, hts, -⟩ := id C
  unfold bL_areCountedSo_57
  refine k_iconst hx hb dL_areCountedSo_57 (by decide) ?_
  exact sL_areCountedSo_58 hlt C hr HL_match hK63 hK116
set_option maxRecDepth 20000 in
theorem sL_areCountedSo_0 {l : Launch} {z0 b : Nat} {D : va_G} {cA : Nat → ClassId} {p : Program} {e : Env} {s : State} {m : MethodId} {args : Array Value} {below : List Frame} {meth : Method} {c : Code} {Kn : QK} {K63 K116 : ZK QQ} {i : Bool} (hlt : l.stackTraces = false) (C : zCx p l (zRm 9 30 155) s m args meth c cL_areCountedSo 11 RL z0 D cA 0) (hr : meth.sig.returnType = (some .boolean)) (HL_match : SemL l z0 b D cA yL_match (Cond.codeWith yL_match cL_match 6 (some .int) [(0, 9, 10, 38)]) 8 130 5 1 tL_match) (hK63 : Snd p l e (zRm 9 30 155) s m args below meth c 11 z0 b (I2 z0 b D cA 0 s) (c2 0 0) (zQ2 below z0 b D cA Kn args s 30) 63 K63) (hK116 : Snd p l e (zRm 9 30 155) s m args below meth c 11 z0 b (I2 z0 b D cA 0 s) (c2 0 0) (zQ2 below z0 b D cA Kn args s 30) 116 K116) : Snd p l e (zRm 9 30 155) s m args below meth c 11 z0 b (I2 z0 b D cA 0 s) (c2 0 0) (zQ2 below z0 b D cA Kn args s 30) 0 (bL_areCountedSo_0 i Kn K63 K116) := by
  obtain ⟨hx, hb, hml, hown, hts, -⟩ := id C
  unfold bL_areCountedSo_0
  refine k_aload_n hx hb dL_areCountedSo_0 rfl ?_
  refine k_iload_n hx hb dL_areCountedSo_1 rfl ?_
  refine k_iload_n hx hb dL_areCountedSo_2 rfl ?_
  refine k_iload_n hx hb dL_areCountedSo_3 rfl ?_
  refine k_rd3 C (i := i) (MB := 30) (g := (fun x0 x1 x2 μ => gCount μ x0 x1 x2)) (wp := w01) (fun z0 N => mX5_count hlt) (fun x0 x1 x2 σ μ h => sim_count h) w01_n (fun x0 x1 x2 μ => ro_count) rfl zlL_118 zmX5_count zvX5_count ziX5 zcX5_count (by decide +kernel) ⟨Nat.le_of_ble_eq_true rfl, Nat.le_of_ble_eq_true rfl⟩ ⟨Nat.le_of_ble_eq_true rfl, Nat.le_of_ble_eq_true rfl⟩ dL_areCountedSo_4 ?_
  refine k_istore hx hb dL_areCountedSo_7 ?_
  refine k_iconst hx hb dL_areCountedSo_9 (by decide) ?_
  refine k_istore hx hb dL_areCountedSo_10 ?_
  refine k_iload hx hb dL_areCountedSo_12 ?_
  refine k_if_lt (tgt := 57) hx hb dL_areCountedSo_14 (by decide) ?_ ?_
  · exact sL_areCountedSo_57 hlt C hr HL_match hK63 hK116
  · refine k_iload hx hb dL_areCountedSo_17 ?_
    refine k_aload_n hx hb dL_areCountedSo_19 rfl ?_
    refine k_rd0 C (i := i) (MB := 30) (g := (fun μ => gThings μ)) (wp := w11) (fun z0 N => mX5_things hlt) (fun σ μ h => sim_things h) w11_n (fun μ => ro_things) rfl zlL_73 zmX5_things zvX5_things ziX5 zcX5_things (by decide +kernel) ⟨Nat.le_of_ble_eq_true rfl, Nat.le_of_ble_eq_true rfl⟩ ⟨Nat.le_of_ble_eq_true rfl, Nat.le_of_ble_eq_true rfl⟩ dL_areCountedSo_20 ?_
    refine k_icmp_gt (tgt := 57) hx hb dL_areCountedSo_23 (by decide) ?_ ?_
    · exact sL_areCountedSo_57 hlt C hr HL_match hK63 hK116
    · refine k_aload_n hx hb dL_areCountedSo_26 rfl ?_
      refine k_iload hx hb dL_areCountedSo_27 ?_
      refine k_iload_n hx hb dL_areCountedSo_29 rfl ?_
      refine k_iload_n hx hb dL_areCountedSo_30 rfl ?_
      refine k_iload_n hx hb dL_areCountedSo_31 rfl ?_
      refine k_cLW C HL_match zlL_121 zsL_match ziL zwL_match (by decide +kernel) ⟨Nat.le_of_ble_eq_true rfl, Nat.le_of_ble_eq_true rfl⟩ ⟨Nat.le_of_ble_eq_true rfl, Nat.le_of_ble_eq_true rfl⟩ dL_areCountedSo_32 ?_
      refine k_ldc hx hb hown (hts _ zkL_40) dL_areCountedSo_35 ?_
      refine k_icmp_ne (tgt := 57) hx hb dL_areCountedSo_37 (by decide) ?_ ?_
      · exact sL_areCountedSo_57 hlt C hr HL_match hK63 hK116
      · refine k_aload_n hx hb dL_areCountedSo_40 rfl ?_
        refine k_iconst hx hb dL_areCountedSo_41 (by decide) ?_
        refine k_iload_n hx hb dL_areCountedSo_42 rfl ?_
        refine k_iload_n hx hb dL_areCountedSo_43 rfl ?_
        refine k_iload_n hx hb dL_areCountedSo_44 rfl ?_
        refine k_cLW C HL_match zlL_121 zsL_match ziL zwL_match (by decide +kernel) ⟨Nat.le_of_ble_eq_true rfl, Nat.le_of_ble_eq_true rfl⟩ ⟨Nat.le_of_ble_eq_true rfl, Nat.le_of_ble_eq_true rfl⟩ dL_areCountedSo_45 ?_
        refine k_ldc hx hb hown (hts _ zkL_40) dL_areCountedSo_48 ?_
        refine k_icmp_ne (tgt := 57) hx hb dL_areCountedSo_50 (by decide) ?_ ?_
        · exact sL_areCountedSo_57 hlt C hr HL_match hK63 hK116
        · refine k_iconst hx hb dL_areCountedSo_53 (by decide) ?_
          refine k_goto (tgt := 58) hx hb dL_areCountedSo_54 (by decide) ?_
          exact sL_areCountedSo_58 hlt C hr HL_match hK63 hK116
set_option maxRecDepth 20000 in
theorem uL_areCountedSo {l : Launch} {z0 b : Nat} {D : va_G} {cA : Nat → ClassId} (hlt : l.stackTraces = false) (HL_match : SemL l z0 b D cA yL_match (Cond.codeWith yL_match cL_match 6 (some .int) [(0, 9, 10, 38)]) 8 130 5 1 tL_match) (spec : ∀ (a : List Value) (μ ν : zMS) (Kn : QK), zok 4 a = true → tL_areCountedSo a μ ν Kn → ∃ i : Bool, ∀ (A : Nat → ZK QQ), (∀ ls st t', bL_areCountedSo_63 i Kn (A 63) (A 116) ls st t' → A 63 ls st t') → (∀ ls st t', bL_areCountedSo_116 i Kn (A 63) (A 116) ls st t' → A 116 ls st t') → bL_areCountedSo_0 i Kn (A 63) (A 116) (zE 11 a) [] (μ, ν, 0, 0)) : SemL l z0 b D cA yL_areCountedSo (Cond.code yL_areCountedSo cL_areCountedSo 11 (some .boolean)) 9 155 4 30 tL_areCountedSo := by
  refine semL_of hlt (by decide +kernel) (by decide) (fun p e s m args below meth c a μ ν Kn hok hN C hr => ?_)
  obtain ⟨i, hi⟩ := spec a μ ν Kn hok hN
  exact sL_areCountedSo_0 (i := i) hlt C hr HL_match (fun _ _ _ q => q) (fun _ _ _ q => q) _ _ _ (hi (fun pc => AW p l e (zRm 9 30 155) s m args below meth c 11 z0 b (I2 z0 b D cA 0 s) (c2 0 0) (zQ2 below z0 b D cA Kn args s 30) pc) (fun ls st t' hq => sL_areCountedSo_63 (i := i) hlt C hr HL_match (fun _ _ _ q => q) (fun _ _ _ q => q) ls st t' hq) (fun ls st t' hq => sL_areCountedSo_116 (i := i) hlt C hr HL_match (fun _ _ _ q => q) (fun _ _ _ q => q) ls st t' hq))
