def bL_isUndoneSo_267 (Kn : QK) : ZK QQ := (o_ret2 0 .boolean Kn)
def bL_isUndoneSo_266 (Kn : QK) : ZK QQ := (o_ic (0) (bL_isUndoneSo_267 Kn))
def bL_isUndoneSo_227 (Kn : QK) : ZK QQ := (o_iload 7 (o_if1 (fun x => x = 0) (bL_isUndoneSo_266 Kn) (o_aload 0 (o_iload 2 (o_rd1 false 0 (fun x0 μ => gHand μ x0) (o_iload 5 (o_if2 (fun x y => ¬ x = y) (bL_isUndoneSo_266 Kn) (o_aload 0 (o_rd0 false 0 (fun μ => gKept μ) (o_iload 6 (o_if2 (fun x y => y < x) (bL_isUndoneSo_266 Kn) (o_aload 0 (o_rd0 false 0 (fun μ => gKept μ) (o_iload 6 (o_ic (2) (o_bin (fun x y => x - y) (o_if2 (fun x y => x < y) (bL_isUndoneSo_266 Kn) (o_ic (1) (bL_isUndoneSo_267 Kn)))))))))))))))))))
def bL_isUndoneSo_225 (Kn : QK) : ZK QQ := (o_istore 7 (bL_isUndoneSo_227 Kn))
def bL_isUndoneSo_224 (Kn : QK) : ZK QQ := (o_ic (0) (bL_isUndoneSo_225 Kn))
def bL_isUndoneSo_188 (Kn : QK) : ZK QQ := (o_istore 7 (o_iload 5 (o_iload 3 (o_bin (fun x y => x >>> (y &&& 31)) (o_ic (1) (o_bin (fun x y => x &&& y) (o_if1 (fun x => ¬ x = 0) (bL_isUndoneSo_227 Kn) (o_iload 7 (o_if1 (fun x => x = 0) (bL_isUndoneSo_224 Kn) (o_aload 0 (o_wr0 false 0 (fun μ => gUndo μ) (o_ic (1) (o_if2 (fun x y => ¬ x = y) (bL_isUndoneSo_224 Kn) (o_aload 1 (o_wr0 true 0 (fun μ => gUndo μ) (o_ic (1) (o_if2 (fun x y => ¬ x = y) (bL_isUndoneSo_224 Kn) (o_ic (1) (bL_isUndoneSo_225 Kn)))))))))))))))))))
def bL_isUndoneSo_187 (Kn : QK) : ZK QQ := (o_ic (0) (bL_isUndoneSo_188 Kn))
def bL_isUndoneSo_164 (Kn : QK) : ZK QQ := (o_iload 7 (o_if1 (fun x => x = 0) (bL_isUndoneSo_187 Kn) (o_aload 0 (o_iload 2 (o_rd1 false 0 (fun x0 μ => gHand μ x0) (o_iload 5 (o_ic (1) (o_iload 3 (o_bin (fun x y => x <<< (y &&& 31)) (o_bin (fun x y => x ||| y) (o_if2 (fun x y => ¬ x = y) (bL_isUndoneSo_187 Kn) (o_ic (1) (bL_isUndoneSo_188 Kn)))))))))))))
def bL_isUndoneSo_162 (Kn : QK) : ZK QQ := (o_istore 7 (bL_isUndoneSo_164 Kn))
def bL_isUndoneSo_161 (Kn : QK) : ZK QQ := (o_ic (0) (bL_isUndoneSo_162 Kn))
def bL_isUndoneSo_127 (Kn : QK) : ZK QQ := (o_istore 7 (o_iload 8 (o_if1 (fun x => x ≤ 0) (bL_isUndoneSo_164 Kn) (o_iload 7 (o_if1 (fun x => x = 0) (bL_isUndoneSo_161 Kn) (o_aload 0 (o_wr0 false 0 (fun μ => gUndo μ) (o_iload 8 (o_if2 (fun x y => ¬ x = y) (bL_isUndoneSo_161 Kn) (o_aload 1 (o_wr0 true 0 (fun μ => gUndo μ) (o_iload 8 (o_if2 (fun x y => ¬ x = y) (bL_isUndoneSo_161 Kn) (o_ic (1) (bL_isUndoneSo_162 Kn)))))))))))))))
def bL_isUndoneSo_126 (Kn : QK) : ZK QQ := (o_ic (0) (bL_isUndoneSo_127 Kn))
def bL_isUndoneSo_64 (Kn : QK) : ZK QQ := (o_istore 7 (o_aload 0 (o_iload 4 (o_iload 3 (o_iload 3 (o_ic (1) (o_bin (fun x y => x + y) (o_aload 0 (o_rd0 false 0 (fun μ => gTags μ) (o_irem (o_wr3 false 0 (fun x0 x1 x2 μ => gMass μ x0 x1 x2) (o_istore 8 (o_iload 7 (o_if1 (fun x => x = 0) (bL_isUndoneSo_126 Kn) (o_aload 1 (o_iload 4 (o_iload 3 (o_iload 3 (o_ic (1) (o_bin (fun x y => x + y) (o_aload 0 (o_rd0 false 0 (fun μ => gTags μ) (o_irem (o_wr3 true 0 (fun x0 x1 x2 μ => gMass μ x0 x1 x2) (o_iload 8 (o_if2 (fun x y => ¬ x = y) (bL_isUndoneSo_126 Kn) (o_iload 8 (o_if1 (fun x => x < 0) (bL_isUndoneSo_126 Kn) (o_iload 8 (o_aload 0 (o_rd0 false 0 (fun μ => gThings μ) (o_if2 (fun x y => y < x) (bL_isUndoneSo_126 Kn) (o_ic (1) (bL_isUndoneSo_127 Kn))))))))))))))))))))))))))))))))))
def bL_isUndoneSo_63 (Kn : QK) : ZK QQ := (o_ic (0) (bL_isUndoneSo_64 Kn))
def bL_isUndoneSo_56 (Kn : QK) : ZK QQ := (o_if2 (fun x y => ¬ x = y) (bL_isUndoneSo_63 Kn) (o_ic (1) (bL_isUndoneSo_64 Kn)))
def bL_isUndoneSo_33 (Kn : QK) : ZK QQ := (o_if2 (fun x y => ¬ x = y) (bL_isUndoneSo_63 Kn) (o_aload 1 (o_iload 2 (o_iload 3 (o_wr2 true 0 (fun x0 x1 μ => gTag μ x0 x1) (o_iload 5 (o_iload 3 (o_bin (fun x y => x >>> (y &&& 31)) (o_ic (1) (o_bin (fun x y => x &&& y) (o_if1 (fun x => ¬ x = 0) (o_ic (0) (bL_isUndoneSo_56 Kn)) (o_ic (1) (bL_isUndoneSo_56 Kn)))))))))))))
def bL_isUndoneSo_0 (Kn : QK) : ZK QQ := (o_aload 0 (o_iload 2 (o_rd1 false 0 (fun x0 μ => gHand μ x0) (o_istore 5 (o_aload 0 (o_rd0 false 0 (fun μ => gKept μ) (o_istore 6 (o_aload 0 (o_iload 2 (o_iload 3 (o_wr2 false 0 (fun x0 x1 μ => gTag μ x0 x1) (o_iload 5 (o_iload 3 (o_bin (fun x y => x >>> (y &&& 31)) (o_ic (1) (o_bin (fun x y => x &&& y) (o_if1 (fun x => ¬ x = 0) (o_ic (0) (bL_isUndoneSo_33 Kn)) (o_ic (1) (bL_isUndoneSo_33 Kn)))))))))))))))))))
set_option maxRecDepth 20000 in
theorem sL_isUndoneSo_267 {l : Launch} {z0 b : Nat} {D : va_G} {cA : Nat → ClassId} {p : Program} {e : Env} {s : State} {m : MethodId} {args : Array Value} {below : List Frame} {meth : Method} {c : Code} {Kn : QK} (hlt : l.stackTraces = false) (C : zCx p l (zRm 8 0 129) s m args meth c cL_isUndoneSo 9 RL z0 D cA 0) (hr : meth.sig.returnType = (some .boolean)) : Snd p l e (zRm 8 0 129) s m args below meth c 9 z0 b (I2 z0 b D cA 0 s) (c2 0 0) (zQ2 below z0 b D cA Kn args s 0) 267 (bL_isUndoneSo_267 Kn) := by
  obtain ⟨hx, hb, hml, hown, hts, -⟩ := id C
  unfold bL_isUndoneSo_267
  exact k_ret2 C hr dL_isUndoneSo_267
set_option maxRecDepth 20000 in
theorem sL_isUndoneSo_266 {l : Launch} {z0 b : Nat} {D : va_G} {cA : Nat → ClassId} {p : Program} {e : Env} {s : State} {m : MethodId} {args : Array Value} {below : List Frame} {meth : Method} {c : Code} {Kn : QK} (hlt : l.stackTraces = false) (C : zCx p l (zRm 8 0 129) s m args meth c cL_isUndoneSo 9 RL z0 D cA 0) (hr : meth.sig.returnType = (some .boolean)) : Snd p l e (zRm 8 0 129) s m args below meth c 9 z0 b (I2 z0 b D cA 0 s) (c2 0 0) (zQ2 below z0 b D cA Kn args s 0) 266 (bL_isUndoneSo_266 Kn) := by
  obtain ⟨hx, hb, hml, hown, hts, -⟩ := id C
  unfold bL_isUndoneSo_266
  refine k_iconst hx hb dL_isUndoneSo_266 (by decide) ?_
  exact sL_isUndoneSo_267 hlt C hr
set_option maxRecDepth 20000 in
theorem sL_isUndoneSo_227 {l : Launch} {z0 b : Nat} {D : va_G} {cA : Nat → ClassId} {p : Program} {e : Env} {s : State} {m : MethodId} {args : Array Value} {below : List Frame} {meth : Method} {c : Code} {Kn : QK} (hlt : l.stackTraces = false) (C : zCx p l (zRm 8 0 129) s m args meth c cL_isUndoneSo 9 RL z0 D cA 0) (hr : meth.sig.returnType = (some .boolean)) : Snd p l e (zRm 8 0 129) s m args below meth c 9 z0 b (I2 z0 b D cA 0 s) (c2 0 0) (zQ2 below z0 b D cA Kn args s 0) 227 (bL_isUndoneSo_227 Kn) := by
  obtain ⟨hx, hb, hml, hown, hts, -⟩ := id C
  unfold bL_isUndoneSo_227
  refine k_iload hx hb dL_isUndoneSo_227 ?_
  refine k_if_eq (tgt := 266) hx hb dL_isUndoneSo_229 (by decide) ?_ ?_
  · exact sL_isUndoneSo_266 hlt C hr
  · refine k_aload_n hx hb dL_isUndoneSo_232 rfl ?_
    refine k_iload_n hx hb dL_isUndoneSo_233 rfl ?_
    refine k_rd1 C (i := false) (MB := 0) (g := (fun x0 μ => gHand μ x0)) (wp := w21) (fun z0 N => mX5_hand hlt) (fun x0 σ μ h => sim_hand h) w21_n (fun x0 μ => ro_hand) rfl zlL_90 zmX5_hand zvX5_hand ziX5 zcX5_hand (by decide +kernel) ⟨Nat.le_of_ble_eq_true rfl, Nat.le_of_ble_eq_true rfl⟩ ⟨Nat.le_of_ble_eq_true rfl, Nat.le_of_ble_eq_true rfl⟩ dL_isUndoneSo_234 ?_
    refine k_iload hx hb dL_isUndoneSo_237 ?_
    refine k_icmp_ne (tgt := 266) hx hb dL_isUndoneSo_239 (by decide) ?_ ?_
    · exact sL_isUndoneSo_266 hlt C hr
    · refine k_aload_n hx hb dL_isUndoneSo_242 rfl ?_
      refine k_rd0 C (i := false) (MB := 0) (g := (fun μ => gKept μ)) (wp := w11) (fun z0 N => mX5_kept hlt) (fun σ μ h => sim_kept h) w11_n (fun μ => ro_kept) rfl zlL_77 zmX5_kept zvX5_kept ziX5 zcX5_kept (by decide +kernel) ⟨Nat.le_of_ble_eq_true rfl, Nat.le_of_ble_eq_true rfl⟩ ⟨Nat.le_of_ble_eq_true rfl, Nat.le_of_ble_eq_true rfl⟩ dL_isUndoneSo_243 ?_
      refine k_iload hx hb dL_isUndoneSo_246 ?_
      refine k_icmp_gt (tgt := 266) hx hb dL_isUndoneSo_248 (by decide) ?_ ?_
      · exact sL_isUndoneSo_266 hlt C hr
      · refine k_aload_n hx hb dL_isUndoneSo_251 rfl ?_
        refine k_rd0 C (i := false) (MB := 0) (g := (fun μ => gKept μ)) (wp := w11) (fun z0 N => mX5_kept hlt) (fun σ μ h => sim_kept h) w11_n (fun μ => ro_kept) rfl zlL_77 zmX5_kept zvX5_kept ziX5 zcX5_kept (by decide +kernel) ⟨Nat.le_of_ble_eq_true rfl, Nat.le_of_ble_eq_true rfl⟩ ⟨Nat.le_of_ble_eq_true rfl, Nat.le_of_ble_eq_true rfl⟩ dL_isUndoneSo_252 ?_
        refine k_iload hx hb dL_isUndoneSo_255 ?_
        refine k_iconst hx hb dL_isUndoneSo_257 (by decide) ?_
        refine k_isub hx hb dL_isUndoneSo_258 ?_
        refine k_icmp_lt (tgt := 266) hx hb dL_isUndoneSo_259 (by decide) ?_ ?_
        · exact sL_isUndoneSo_266 hlt C hr
        · refine k_iconst hx hb dL_isUndoneSo_262 (by decide) ?_
          refine k_goto (tgt := 267) hx hb dL_isUndoneSo_263 (by decide) ?_
          exact sL_isUndoneSo_267 hlt C hr
set_option maxRecDepth 20000 in
theorem sL_isUndoneSo_225 {l : Launch} {z0 b : Nat} {D : va_G} {cA : Nat → ClassId} {p : Program} {e : Env} {s : State} {m : MethodId} {args : Array Value} {below : List Frame} {meth : Method} {c : Code} {Kn : QK} (hlt : l.stackTraces = false) (C : zCx p l (zRm 8 0 129) s m args meth c cL_isUndoneSo 9 RL z0 D cA 0) (hr : meth.sig.returnType = (some .boolean)) : Snd p l e (zRm 8 0 129) s m args below meth c 9 z0 b (I2 z0 b D cA 0 s) (c2 0 0) (zQ2 below z0 b D cA Kn args s 0) 225 (bL_isUndoneSo_225 Kn) := by
  obtain ⟨hx, hb, hml, hown, hts, -⟩ := id C
  unfold bL_isUndoneSo_225
  refine k_istore hx hb dL_isUndoneSo_225 ?_
  exact sL_isUndoneSo_227 hlt C hr
set_option maxRecDepth 20000 in
theorem sL_isUndoneSo_224 {l : Launch} {z0 b : Nat} {D : va_G} {cA : Nat → ClassId} {p : Program} {e : Env} {s : State} {m : MethodId} {args : Array Value} {below : List Frame} {meth : Method} {c : Code} {Kn : QK} (hlt : l.stackTraces = false) (C : zCx p l (zRm 8 0 129) s m args meth c cL_isUndoneSo 9 RL z0 D cA 0) (hr : meth.sig.returnType = (some .boolean)) : Snd p l e (zRm 8 0 129) s m args below meth c 9 z0 b (I2 z0 b D cA 0 s) (c2 0 0) (zQ2 below z0 b D cA Kn args s 0) 224 (bL_isUndoneSo_224 Kn) := by
  obtain ⟨hx, hb, hml, hown, hts, -⟩ := id C
  unfold bL_isUndoneSo_224
  refine k_iconst hx hb dL_isUndoneSo_224 (by decide) ?_
  exact sL_isUndoneSo_225 hlt C hr
set_option maxRecDepth 20000 in
theorem sL_isUndoneSo_188 {l : Launch} {z0 b : Nat} {D : va_G} {cA : Nat → ClassId} {p : Program} {e : Env} {s : State} {m : MethodId} {args : Array Value} {below : List Frame} {meth : Method} {c : Code} {Kn : QK} (hlt : l.stackTraces = false) (C : zCx p l (zRm 8 0 129) s m args meth c cL_isUndoneSo 9 RL z0 D cA 0) (hr : meth.sig.returnType = (some .boolean)) : Snd p l e (zRm 8 0 129) s m args below meth c 9 z0 b (I2 z0 b D cA 0 s) (c2 0 0) (zQ2 below z0 b D cA Kn args s 0) 188 (bL_isUndoneSo_188 Kn) := by
  obtain ⟨hx, hb, hml, hown, hts, -⟩ := id C
  unfold bL_isUndoneSo_188
  refine k_istore hx hb dL_isUndoneSo_188 ?_
  refine k_iload hx hb dL_isUndoneSo_190 ?_
  refine k_iload_n hx hb dL_isUndoneSo_192 rfl ?_
  refine k_ishr hx hb dL_isUndoneSo_193 ?_
  refine k_iconst hx hb dL_isUndoneSo_194 (by decide) ?_
  refine k_iand hx hb dL_isUndoneSo_195 ?_
  refine k_if_ne (tgt := 227) hx hb dL_isUndoneSo_196 (by decide) ?_ ?_
  · exact sL_isUndoneSo_227 hlt C hr
  · refine k_iload hx hb dL_isUndoneSo_199 ?_
    refine k_if_eq (tgt := 224) hx hb dL_isUndoneSo_201 (by decide) ?_ ?_
    · exact sL_isUndoneSo_224 hlt C hr
    · refine k_aload_n hx hb dL_isUndoneSo_204 rfl ?_
      refine k_wr0 C (i := false) (MB := 0) (g := (fun μ => gUndo μ)) (wp := w11) (fun z0 N => mX5_undo hlt) (fun σ μ h => sim_undo h) w11_n rfl zlL_25 zmX5_undo zvX5_undo ziX5 zcX5_undo (by decide +kernel) ⟨Nat.le_of_ble_eq_true rfl, Nat.le_of_ble_eq_true rfl⟩ ⟨Nat.le_of_ble_eq_true rfl, Nat.le_of_ble_eq_true rfl⟩ dL_isUndoneSo_205 ?_
      refine k_iconst hx hb dL_isUndoneSo_208 (by decide) ?_
      refine k_icmp_ne (tgt := 224) hx hb dL_isUndoneSo_209 (by decide) ?_ ?_
      · exact sL_isUndoneSo_224 hlt C hr
      · refine k_aload_n hx hb dL_isUndoneSo_212 rfl ?_
        refine k_wr0 C (i := true) (MB := 0) (g := (fun μ => gUndo μ)) (wp := w11) (fun z0 N => mX5_undo hlt) (fun σ μ h => sim_undo h) w11_n rfl zlL_25 zmX5_undo zvX5_undo ziX5 zcX5_undo (by decide +kernel) ⟨Nat.le_of_ble_eq_true rfl, Nat.le_of_ble_eq_true rfl⟩ ⟨Nat.le_of_ble_eq_true rfl, Nat.le_of_ble_eq_true rfl⟩ dL_isUndoneSo_213 ?_
        refine k_iconst hx hb dL_isUndoneSo_216 (by decide) ?_
        refine k_icmp_ne (tgt := 224) hx hb dL_isUndoneSo_217 (by decide) ?_ ?_
        · exact sL_isUndoneSo_224 hlt C hr
        · refine k_iconst hx hb dL_isUndoneSo_220 (by decide) ?_
          refine k_goto (tgt := 225) hx hb dL_isUndoneSo_221 (by decide) ?_
          exact sL_isUndoneSo_225 hlt C hr
set_option maxRecDepth 20000 in
theorem sL_isUndoneSo_187 {l : Launch} {z0 b : Nat} {D : va_G} {cA : Nat → ClassId} {p : Program} {e : Env} {s : State} {m : MethodId} {args : Array Value} {below : List Frame} {meth : Method} {c : Code} {Kn : QK} (hlt : l.stackTraces = false) (C : zCx p l (zRm 8 0 129) s m args meth c cL_isUndoneSo 9 RL z0 D cA 0) (hr : meth.sig.returnType = (some .boolean)) : Snd p l e (zRm 8 0 129) s m args below meth c 9 z0 b (I2 z0 b D cA 0 s) (c2 0 0) (zQ2 below z0 b D cA Kn args s 0) 187 (bL_isUndoneSo_187 Kn) := by
  obtain ⟨hx, hb, hml, hown, hts, -⟩ := id C
  unfold bL_isUndoneSo_187
  refine k_iconst hx hb dL_isUndoneSo_187 (by decide) ?_
  exact sL_isUndoneSo_188 hlt C hr
set_option maxRecDepth 20000 in
theorem sL_isUndoneSo_164 {l : Launch} {z0 b : Nat} {D : va_G} {cA : Nat → ClassId} {p : Program} {e : Env} {s : State} {m : MethodId} {args : Array Value} {below : List Frame} {meth : Method} {c : Code} {Kn : QK} (hlt : l.stackTraces = false) (C : zCx p l (zRm 8 0 129) s m args meth c cL_isUndoneSo 9 RL z0 D cA 0) (hr : meth.sig.returnType = (some .boolean)) : Snd p l e (zRm 8 0 129) s m args below meth c 9 z0 b (I2 z0 b D cA 0 s) (c2 0 0) (zQ2 below z0 b D cA Kn args s 0) 164 (bL_isUndoneSo_164 Kn) := by
  obtain ⟨hx, hb, hml, hown, hts, -⟩ := id C
  unfold bL_isUndoneSo_164
  refine k_iload hx hb dL_isUndoneSo_164 ?_
  refine k_if_eq (tgt := 187) hx hb dL_isUndoneSo_166 (by decide) ?_ ?_
  · exact sL_isUndoneSo_187 hlt C hr
  · refine k_aload_n hx hb dL_isUndoneSo_169 rfl ?_
    refine k_iload_n hx hb dL_isUndoneSo_170 rfl ?_
    refine k_rd1 C (i := false) (MB := 0) (g := (fun x0 μ => gHand μ x0)) (wp := w21) (fun z0 N => mX5_hand hlt) (fun x0 σ μ h => sim_hand h) w21_n (fun x0 μ => ro_hand) rfl zlL_90 zmX5_hand zvX5_hand ziX5 zcX5_hand (by decide +kernel) ⟨Nat.le_of_ble_eq_true rfl, Nat.le_of_ble_eq_true rfl⟩ ⟨Nat.le_of_ble_eq_true rfl, Nat.le_of_ble_eq_true rfl⟩ dL_isUndoneSo_171 ?_
    refine k_iload hx hb dL_isUndoneSo_174 ?_
    refine k_iconst hx hb dL_isUndoneSo_176 (by decide) ?_
    refine k_iload_n hx hb dL_isUndoneSo_177 rfl ?_
    refine k_ishl hx hb dL_isUndoneSo_178 ?_
    refine k_ior hx hb dL_isUndoneSo_179 ?_
    refine k_icmp_ne (tgt := 187) hx hb dL_isUndoneSo_180 (by decide) ?_ ?_
    · exact sL_isUndoneSo_187 hlt C hr
    · refine k_iconst hx hb dL_isUndoneSo_183 (by decide) ?_
      refine k_goto (tgt := 188) hx hb dL_isUndoneSo_184 (by decide) ?_
      exact sL_isUndoneSo_188 hlt C hr
set_option maxRecDepth 20000 in
theorem sL_isUndoneSo_162 {l : Launch} {z0 b : Nat} {D : va_G} {cA : Nat → ClassId} {p : Program} {e : Env} {s : State} {m : MethodId} {args : Array Value} {below : List Frame} {meth : Method} {c : Code} {Kn : QK} (hlt : l.stackTraces = false) (C : zCx p l (zRm 8 0 129) s m args meth c cL_isUndoneSo 9 RL z0 D cA 0) (hr : meth.sig.returnType = (some .boolean)) : Snd p l e (zRm 8 0 129) s m args below meth c 9 z0 b (I2 z0 b D cA 0 s) (c2 0 0) (zQ2 below z0 b D cA Kn args s 0) 162 (bL_isUndoneSo_162 Kn) := by
  obtain ⟨hx, hb, hml, hown, hts, -⟩ := id C
  unfold bL_isUndoneSo_162
  refine k_istore hx hb dL_isUndoneSo_162 ?_
  exact sL_isUndoneSo_164 hlt C hr
set_option maxRecDepth 20000 in
theorem sL_isUndoneSo_161 {l : Launch} {z0 b : Nat} {D : va_G} {cA : Nat → ClassId} {p : Program} {e : Env} {s : State} {m : MethodId} {args : Array Value} {below : List Frame} {meth : Method} {c : Code} {Kn : QK} (hlt : l.stackTraces = false) (C : zCx p l (zRm 8 0 129) s m args meth c cL_isUndoneSo 9 RL z0 D cA 0) (hr : meth.sig.returnType = (some .boolean)) : Snd p l e (zRm 8 0 129) s m args below meth c 9 z0 b (I2 z0 b D cA 0 s) (c2 0 0) (zQ2 below z0 b D cA Kn args s 0) 161 (bL_isUndoneSo_161 Kn) := by
  obtain ⟨hx, hb, hml, hown, hts, -⟩ := id C
  unfold bL_isUndoneSo_161
  refine k_iconst hx hb dL_isUndoneSo_161 (by decide) ?_
  exact sL_isUndoneSo_162 hlt C hr
set_option maxRecDepth 20000 in
theorem sL_isUndoneSo_127 {l : Launch} {z0 b : Nat} {D : va_G} {cA : Nat → ClassId} {p : Program} {e : Env} {s : State} {m : MethodId} {args : Array Value} {below : List Frame} {meth : Method} {c : Code} {Kn : QK} (hlt : l.stackTraces = false) (C : zCx p l (zRm 8 0 129) s m args meth c cL_isUndoneSo 9 RL z0 D cA 0) (hr : meth.sig.returnType = (some .boolean)) : Snd p l e (zRm 8 0 129) s m args below meth c 9 z0 b (I2 z0 b D cA 0 s) (c2 0 0) (zQ2 below z0 b D cA Kn args s 0) 127 (bL_isUndoneSo_127 Kn) := by
  obtain ⟨hx, hb, hml, hown, hts, -⟩ := id C
  unfold bL_isUndoneSo_127
  refine k_istore hx hb dL_isUndoneSo_127 ?_
  refine k_iload hx hb dL_isUndoneSo_129 ?_
  refine k_if_le (tgt := 164) hx hb dL_isUndoneSo_131 (by decide) ?_ ?_
  · exact sL_isUndoneSo_164 hlt C hr
  · refine k_iload hx hb dL_isUndoneSo_134 ?_
    refine k_if_eq (tgt := 161) hx hb dL_isUndoneSo_136 (by decide) ?_ ?_
    · exact sL_isUndoneSo_161 hlt C hr
    · refine k_aload_n hx hb dL_isUndoneSo_139 rfl ?_
      refine k_wr0 C (i := false) (MB := 0) (g := (fun μ => gUndo μ)) (wp := w11) (fun z0 N => mX5_undo hlt) (fun σ μ h => sim_undo h) w11_n rfl zlL_25 zmX5_undo zvX5_undo ziX5 zcX5_undo (by decide +kernel) ⟨Nat.le_of_ble_eq_true rfl, Nat.le_of_ble_eq_true rfl⟩ ⟨Nat.le_of_ble_eq_true rfl, Nat.le_of_ble_eq_true rfl⟩ dL_isUndoneSo_140 ?_
      refine k_iload hx hb dL_isUndoneSo_143 ?_
      refine k_icmp_ne (tgt := 161) hx hb dL_isUndoneSo_145 (by decide) ?_ ?_
      · exact sL_isUndoneSo_161 hlt C hr
      · refine k_aload_n hx hb dL_isUndoneSo_148 rfl ?_
        refine k_wr0 C (i := true) (MB := 0) (g := (fun μ => gUndo μ)) (wp := w11) (fun z0 N => mX5_undo hlt) (fun σ μ h => sim_undo h) w11_n rfl zlL_25 zmX5_undo zvX5_undo ziX5 zcX5_undo (by decide +kernel) ⟨Nat.le_of_ble_eq_true rfl, Nat.le_of_ble_eq_true rfl⟩ ⟨Nat.le_of_ble_eq_true rfl, Nat.le_of_ble_eq_true rfl⟩ dL_isUndoneSo_149 ?_
        refine k_iload hx hb dL_isUndoneSo_152 ?_
        refine k_icmp_ne (tgt := 161) hx hb dL_isUndoneSo_154 (by decide) ?_ ?_
        · exact sL_isUndoneSo_161 hlt C hr
        · refine k_iconst hx hb dL_isUndoneSo_157 (by decide) ?_
          refine k_goto (tgt := 162) hx hb dL_isUndoneSo_158 (by decide) ?_
          exact sL_isUndoneSo_162 hlt C hr
set_option maxRecDepth 20000 in
theorem sL_isUndoneSo_126 {l : Launch} {z0 b : Nat} {D : va_G} {cA : Nat → ClassId} {p : Program} {e : Env} {s : State} {m : MethodId} {args : Array Value} {below : List Frame} {meth : Method} {c : Code} {Kn : QK} (hlt : l.stackTraces = false) (C : zCx p l (zRm 8 0 129) s m args meth c cL_isUndoneSo 9 RL z0 D cA 0) (hr : meth.sig.returnType = (some .boolean)) : Snd p l e (zRm 8 0 129) s m args below meth c 9 z0 b (I2 z0 b D cA 0 s) (c2 0 0) (zQ2 below z0 b D cA Kn args s 0) 126 (bL_isUndoneSo_126 Kn) := by
  obtain ⟨hx, hb, hml, hown, hts, -⟩ := id C
  unfold bL_isUndoneSo_126
  refine k_iconst hx hb dL_isUndoneSo_126 (by decide) ?_
  exact sL_isUndoneSo_127 hlt C hr
set_option maxRecDepth 20000 in
theorem sL_isUndoneSo_64 {l : Launch} {z0 b : Nat} {D : va_G} {cA : Nat → ClassId} {p : Program} {e : Env} {s : State} {m : MethodId} {args : Array Value} {below : List Frame} {meth : Method} {c : Code} {Kn : QK} (hlt : l.stackTraces = false) (C : zCx p l (zRm 8 0 129) s m args meth c cL_isUndoneSo 9 RL z0 D cA 0) (hr : meth.sig.returnType = (some .boolean)) : Snd p l e (zRm 8 0 129) s m args below meth c 9 z0 b (I2 z0 b D cA 0 s) (c2 0 0) (zQ2 below z0 b D cA Kn args s 0) 64 (bL_isUndoneSo_64 Kn) := by
  obtain ⟨hx, hb, hml, hown, hts, -⟩ := id C
  unfold bL_isUndoneSo_64
  refine k_istore hx hb dL_isUndoneSo_64 ?_
  refine k_aload_n hx hb dL_isUndoneSo_66 rfl ?_
  refine k_iload hx hb dL_isUndoneSo_67 ?_
  refine k_iload_n hx hb dL_isUndoneSo_69 rfl ?_
  refine k_iload_n hx hb dL_isUndoneSo_70 rfl ?_
  refine k_iconst hx hb dL_isUndoneSo_71 (by decide) ?_
  refine k_iadd hx hb dL_isUndoneSo_72 ?_
  refine k_aload_n hx hb dL_isUndoneSo_73 rfl ?_
  refine k_rd0 C (i := false) (MB := 0) (g := (fun μ => gTags μ)) (wp := w11) (fun z0 N => mX5_tags hlt) (fun σ μ h => sim_tags h) w11_n (fun μ => ro_tags) rfl zlL_63 zmX5_tags zvX5_tags ziX5 zcX5_tags (by decide +kernel) ⟨Nat.le_of_ble_eq_true rfl, Nat.le_of_ble_eq_true rfl⟩ ⟨Nat.le_of_ble_eq_true rfl, Nat.le_of_ble_eq_true rfl⟩ dL_isUndoneSo_74 ?_
  refine k_irem hx hb dL_isUndoneSo_77 ?_
  refine k_wr3 C (i := false) (MB := 0) (g := (fun x0 x1 x2 μ => gMass μ x0 x1 x2)) (wp := w21) (fun z0 N => mX5_mass hlt) (fun x0 x1 x2 σ μ h => sim_mass h) w21_n rfl zlL_21 zmX5_mass zvX5_mass ziX5 zcX5_mass (by decide +kernel) ⟨Nat.le_of_ble_eq_true rfl, Nat.le_of_ble_eq_true rfl⟩ ⟨Nat.le_of_ble_eq_true rfl, Nat.le_of_ble_eq_true rfl⟩ dL_isUndoneSo_78 ?_
  refine k_istore hx hb dL_isUndoneSo_81 ?_
  refine k_iload hx hb dL_isUndoneSo_83 ?_
  refine k_if_eq (tgt := 126) hx hb dL_isUndoneSo_85 (by decide) ?_ ?_
  · exact sL_isUndoneSo_126 hlt C hr
  · refine k_aload_n hx hb dL_isUndoneSo_88 rfl ?_
    refine k_iload hx hb dL_isUndoneSo_89 ?_
    refine k_iload_n hx hb dL_isUndoneSo_91 rfl ?_
    refine k_iload_n hx hb dL_isUndoneSo_92 rfl ?_
    refine k_iconst hx hb dL_isUndoneSo_93 (by decide) ?_
    refine k_iadd hx hb dL_isUndoneSo_94 ?_
    refine k_aload_n hx hb dL_isUndoneSo_95 rfl ?_
    refine k_rd0 C (i := false) (MB := 0) (g := (fun μ => gTags μ)) (wp := w11) (fun z0 N => mX5_tags hlt) (fun σ μ h => sim_tags h) w11_n (fun μ => ro_tags) rfl zlL_63 zmX5_tags zvX5_tags ziX5 zcX5_tags (by decide +kernel) ⟨Nat.le_of_ble_eq_true rfl, Nat.le_of_ble_eq_true rfl⟩ ⟨Nat.le_of_ble_eq_true rfl, Nat.le_of_ble_eq_true rfl⟩ dL_isUndoneSo_96 ?_
    refine k_irem hx hb dL_isUndoneSo_99 ?_
    refine k_wr3 C (i := true) (MB := 0) (g := (fun x0 x1 x2 μ => gMass μ x0 x1 x2)) (wp := w21) (fun z0 N => mX5_mass hlt) (fun x0 x1 x2 σ μ h => sim_mass h) w21_n rfl zlL_21 zmX5_mass zvX5_mass ziX5 zcX5_mass (by decide +kernel) ⟨Nat.le_of_ble_eq_true rfl, Nat.le_of_ble_eq_true rfl⟩ ⟨Nat.le_of_ble_eq_true rfl, Nat.le_of_ble_eq_true rfl⟩ dL_isUndoneSo_100 ?_
    refine k_iload hx hb dL_isUndoneSo_103 ?_
    refine k_icmp_ne (tgt := 126) hx hb dL_isUndoneSo_105 (by decide) ?_ ?_
    · exact sL_isUndoneSo_126 hlt C hr
    · refine k_iload hx hb dL_isUndoneSo_108 ?_
      refine k_if_lt (tgt := 126) hx hb dL_isUndoneSo_110 (by decide) ?_ ?_
      · exact sL_isUndoneSo_126 hlt C hr
      · refine k_iload hx hb dL_isUndoneSo_113 ?_
        refine k_aload_n hx hb dL_isUndoneSo_115 rfl ?_
        refine k_rd0 C (i := false) (MB := 0) (g := (fun μ => gThings μ)) (wp := w11) (fun z0 N => mX5_things hlt) (fun σ μ h => sim_things h) w11_n (fun μ => ro_things) rfl zlL_73 zmX5_things zvX5_things ziX5 zcX5_things (by decide +kernel) ⟨Nat.le_of_ble_eq_true rfl, Nat.le_of_ble_eq_true rfl⟩ ⟨Nat.le_of_ble_eq_true rfl, Nat.le_of_ble_eq_true rfl⟩ dL_isUndoneSo_116 ?_
        refine k_icmp_gt (tgt := 126) hx hb dL_isUndoneSo_119 (by decide) ?_ ?_
        · exact sL_isUndoneSo_126 hlt C hr
        · refine k_iconst hx hb dL_isUndoneSo_122 (by decide) ?_
          refine k_goto (tgt := 127) hx hb dL_isUndoneSo_123 (by decide) ?_
          exact sL_isUndoneSo_127 hlt C hr
set_option maxRecDepth 20000 in
theorem sL_isUndoneSo_63 {l : Launch} {z0 b : Nat} {D : va_G} {cA : Nat → ClassId} {p : Program} {e : Env} {s : State} {m : MethodId} {args : Array Value} {below : List Frame} {meth : Method} {c : Code} {Kn : QK} (hlt : l.stackTraces = false) (C : zCx p l (zRm 8 0 129) s m args meth c cL_isUndoneSo 9 RL z0 D cA 0) (hr : meth.sig.returnType = (some .boolean)) : Snd p l e (zRm 8 0 129) s m args below meth c 9 z0 b (I2 z0 b D cA 0 s) (c2 0 0) (zQ2 below z0 b D cA Kn args s 0) 63 (bL_isUndoneSo_63 Kn) := by
  obtain ⟨hx, hb, hml, hown, hts, -⟩ := id C
  unfold bL_isUndoneSo_63
  refine k_iconst hx hb dL_isUndoneSo_63 (by decide) ?_
  exact sL_isUndoneSo_64 hlt C hr
set_option maxRecDepth 20000 in
theorem sL_isUndoneSo_56 {l : Launch} {z0 b : Nat} {D : va_G} {cA : Nat → ClassId} {p : Program} {e : Env} {s : State} {m : MethodId} {args : Array Value} {below : List Frame} {meth : Method} {c : Code} {Kn : QK} (hlt : l.stackTraces = false) (C : zCx p l (zRm 8 0 129) s m args meth c cL_isUndoneSo 9 RL z0 D cA 0) (hr : meth.sig.returnType = (some .boolean)) : Snd p l e (zRm 8 0 129) s m args below meth c 9 z0 b (I2 z0 b D cA 0 s) (c2 0 0) (zQ2 below z0 b D cA Kn args s 0) 56 (bL_isUndoneSo_56 Kn) := by
  obtain ⟨hx, hb, hml, hown, hts, -⟩ := id C
  unfold bL_isUndoneSo_56
  refine k_icmp_ne (tgt := 63) hx hb dL_isUndoneSo_56 (by decide) ?_ ?_
  · exact sL_isUndoneSo_63 hlt C hr
  · refine k_iconst hx hb dL_isUndoneSo_59 (by decide) ?_
    refine k_goto (tgt := 64) hx hb dL_isUndoneSo_60 (by decide) ?_
    exact sL_isUndoneSo_64 hlt C hr
set_option maxRecDepth 20000 in
theorem sL_isUndoneSo_33 {l : Launch} {z0 b : Nat} {D : va_G} {cA : Nat → ClassId} {p : Program} {e : Env} {s : State} {m : MethodId} {args : Array Value} {below : List Frame} {meth : Method} {c : Code} {Kn : QK} (hlt : l.stackTraces = false) (C : zCx p l (zRm 8 0 129) s m args meth c cL_isUndoneSo 9 RL z0 D cA 0) (hr : meth.sig.returnType = (some .boolean)) : Snd p l e (zRm 8 0 129) s m args below meth c 9 z0 b (I2 z0 b D cA 0 s) (c2 0 0) (zQ2 below z0 b D cA Kn args s 0) 33 (bL_isUndoneSo_33 Kn) := by
  obtain ⟨hx, hb, hml, hown, hts, -⟩ := id C
  unfold bL_isUndoneSo_33
  refine k_icmp_ne (tgt := 63) hx hb dL_isUndoneSo_33 (by decide) ?_ ?_
  · exact sL_isUndoneSo_63 hlt C hr
  · refine k_aload_n hx hb dL_isUndoneSo_36 rfl ?_
    refine k_iload_n hx hb dL_isUndoneSo_37 rfl ?_
    refine k_iload_n hx hb dL_isUndoneSo_38 rfl ?_
    refine k_wr2 C (i := true) (MB := 0) (g := (fun x0 x1 μ => gTag μ x0 x1)) (wp := w21) (fun z0 N => mX5_tag hlt) (fun x0 x1 σ μ h => sim_tag h) w21_n rfl zlL_14 zmX5_tag zvX5_tag ziX5 zcX5_tag (by decide +kernel) ⟨Nat.le_of_ble_eq_true rfl, Nat.le_of_ble_eq_true rfl⟩ ⟨Nat.le_of_ble_eq_true rfl, Nat.le_of_ble_eq_true rfl⟩ dL_isUndoneSo_39 ?_
    refine k_iload hx hb dL_isUndoneSo_42 ?_
    refine k_iload_n hx hb dL_isUndoneSo_44 rfl ?_
    refine k_ishr hx hb dL_isUndoneSo_45 ?_
    refine k_iconst hx hb dL_isUndoneSo_46 (by decide) ?_
    refine k_iand hx hb dL_isUndoneSo_47 ?_
    refine k_if_ne (tgt := 55) hx hb dL_isUndoneSo_48 (by decide) ?_ ?_
    · refine k_iconst hx hb dL_isUndoneSo_55 (by decide) ?_
      exact sL_isUndoneSo_56 hlt C hr
    · refine k_iconst hx hb dL_isUndoneSo_51 (by decide) ?_
      refine k_goto (tgt := 56) hx hb dL_isUndoneSo_52 (by decide) ?_
      exact sL_isUndoneSo_56 hlt C hr
set_option maxRecDepth 20000 in
theorem sL_isUndoneSo_0 {l : Launch} {z0 b : Nat} {D : va_G} {cA : Nat → ClassId} {p : Program} {e : Env} {s : State} {m : MethodId} {args : Array Value} {below : List Frame} {meth : Method} {c : Code} {Kn : QK} (hlt : l.stackTraces = false) (C : zCx p l (zRm 8 0 129) s m args meth c cL_isUndoneSo 9 RL z0 D cA 0) (hr : meth.sig.returnType = (some .boolean)) : Snd p l e (zRm 8 0 129) s m args below meth c 9 z0 b (I2 z0 b D cA 0 s) (c2 0 0) (zQ2 below z0 b D cA Kn args s 0) 0 (bL_isUndoneSo_0 Kn) := by
  obtain ⟨hx, hb, hml, hown, hts, -⟩ := id C
  unfold bL_isUndoneSo_0
  refine k_aload_n hx hb dL_isUndoneSo_0 rfl ?_
  refine k_iload_n hx hb dL_isUndoneSo_1 rfl ?_
  refine k_rd1 C (i := false) (MB := 0) (g := (fun x0 μ => gHand μ x0)) (wp := w21) (fun z0 N => mX5_hand hlt) (fun x0 σ μ h => sim_hand h) w21_n (fun x0 μ => ro_hand) rfl zlL_90 zmX5_hand zvX5_hand ziX5 zcX5_hand (by decide +kernel) ⟨Nat.le_of_ble_eq_true rfl, Nat.le_of_ble_eq_true rfl⟩ ⟨Nat.le_of_ble_eq_true rfl, Nat.le_of_ble_eq_true rfl⟩ dL_isUndoneSo_2 ?_
  refine k_istore hx hb dL_isUndoneSo_5 ?_
  refine k_aload_n hx hb dL_isUndoneSo_7 rfl ?_
  refine k_rd0 C (i := false) (MB := 0) (g := (fun μ => gKept μ)) (wp := w11) (fun z0 N => mX5_kept hlt) (fun σ μ h => sim_kept h) w11_n (fun μ => ro_kept) rfl zlL_77 zmX5_kept zvX5_kept ziX5 zcX5_kept (by decide +kernel) ⟨Nat.le_of_ble_eq_true rfl, Nat.le_of_ble_eq_true rfl⟩ ⟨Nat.le_of_ble_eq_true rfl, Nat.le_of_ble_eq_true rfl⟩ dL_isUndoneSo_8 ?_
  refine k_istore hx hb dL_isUndoneSo_11 ?_
  refine k_aload_n hx hb dL_isUndoneSo_13 rfl ?_
  refine k_iload_n hx hb dL_isUndoneSo_14 rfl ?_
  refine k_iload_n hx hb dL_isUndoneSo_15 rfl ?_
  refine k_wr2 C (i := false) (MB := 0) (g := (fun x0 x1 μ => gTag μ x0 x1)) (wp := w21) (fun z0 N => mX5_tag hlt) (fun x0 x1 σ μ h => sim_tag h) w21_n rfl zlL_14 zmX5_tag zvX5_tag ziX5 zcX5_tag (by decide +kernel) ⟨Nat.le_of_ble_eq_true rfl, Nat.le_of_ble_eq_true rfl⟩ ⟨Nat.le_of_ble_eq_true rfl, Nat.le_of_ble_eq_true rfl⟩ dL_isUndoneSo_16 ?_
  refine k_iload hx hb dL_isUndoneSo_19 ?_
  refine k_iload_n hx hb dL_isUndoneSo_21 rfl ?_
  refine k_ishr hx hb dL_isUndoneSo_22 ?_
  refine k_iconst hx hb dL_isUndoneSo_23 (by decide) ?_
  refine k_iand hx hb dL_isUndoneSo_24 ?_
  refine k_if_ne (tgt := 32) hx hb dL_isUndoneSo_25 (by decide) ?_ ?_
  · refine k_iconst hx hb dL_isUndoneSo_32 (by decide) ?_
    exact sL_isUndoneSo_33 hlt C hr
  · refine k_iconst hx hb dL_isUndoneSo_28 (by decide) ?_
    refine k_goto (tgt := 33) hx hb dL_isUndoneSo_29 (by decide) ?_
    exact sL_isUndoneSo_33 hlt C hr
set_option maxRecDepth 20000 in
theorem uL_isUndoneSo {l : Launch} {z0 b : Nat} {D : va_G} {cA : Nat → ClassId} (hlt : l.stackTraces = false) (spec : ∀ (a : List Value) (μ ν : zMS) (Kn : QK), zok 5 a = true → tL_isUndoneSo a μ ν Kn → bL_isUndoneSo_0 Kn (zE 9 a) [] (μ, ν, 0, 0)) : SemL l z0 b D cA yL_isUndoneSo (Cond.code yL_isUndoneSo cL_isUndoneSo 9 (some .boolean)) 8 129 5 0 tL_isUndoneSo := by
  refine semL_of hlt (by decide +kernel) (by decide) (fun p e s m args below meth c a μ ν Kn hok hN C hr => ?_)
  exact sL_isUndoneSo_0 hlt C hr _ _ _ (spec a μ ν Kn hok hN)
