def bL_areAlike_195 (Kn : QK) (K41 K108 K160 : ZK QQ) : ZK QQ := (o_iload 2 (o_ret2 80 .boolean Kn))
def bL_areAlike_188 (Kn : QK) (K41 K108 K160 : ZK QQ) : ZK QQ := (o_istore 2 (o_iinc 3 (1) K160))
def bL_areAlike_160 (Kn : QK) (K41 K108 K160 : ZK QQ) : ZK QQ := (o_iload 3 (o_ic (40) (o_if2 (fun x y => y ≤ x) (bL_areAlike_195 Kn K41 K108 K160) (o_iload 2 (o_if1 (fun x => x = 0) (bL_areAlike_195 Kn K41 K108 K160) (o_aload 0 (o_iload 3 (o_cL 2 1 80 tL_standing (o_aload 1 (o_iload 3 (o_cL 2 1 80 tL_standing (o_if2 (fun x y => ¬ x = y) (o_ic (0) (bL_areAlike_188 Kn K41 K108 K160)) (o_ic (1) (bL_areAlike_188 Kn K41 K108 K160))))))))))))))
def bL_areAlike_158 (Kn : QK) (K41 K108 K160 : ZK QQ) : ZK QQ := (o_ic (0) (o_istore 3 K160))
def bL_areAlike_151 (Kn : QK) (K41 K108 K160 : ZK QQ) : ZK QQ := (o_istore 2 (o_iinc 3 (1) K108))
def bL_areAlike_150 (Kn : QK) (K41 K108 K160 : ZK QQ) : ZK QQ := (o_ic (0) (bL_areAlike_151 Kn K41 K108 K160))
def bL_areAlike_108 (Kn : QK) (K41 K108 K160 : ZK QQ) : ZK QQ := (o_iload 3 (o_aload 0 (o_rd0 false 80 (fun μ => gThings μ) (o_if2 (fun x y => y ≤ x) (bL_areAlike_158 Kn K41 K108 K160) (o_iload 2 (o_if1 (fun x => x = 0) (bL_areAlike_158 Kn K41 K108 K160) (o_aload 0 (o_iload 3 (o_rd1 false 80 (fun x0 μ => gHand μ x0) (o_aload 1 (o_iload 3 (o_rd1 true 80 (fun x0 μ => gHand μ x0) (o_if2 (fun x y => ¬ x = y) (bL_areAlike_150 Kn K41 K108 K160) (o_aload 0 (o_iload 3 (o_rd1 false 80 (fun x0 μ => gShown μ x0) (o_aload 1 (o_iload 3 (o_rd1 true 80 (fun x0 μ => gShown μ x0) (o_if2 (fun x y => ¬ x = y) (bL_areAlike_150 Kn K41 K108 K160) (o_ic (1) (bL_areAlike_151 Kn K41 K108 K160))))))))))))))))))))))
def bL_areAlike_106 (Kn : QK) (K41 K108 K160 : ZK QQ) : ZK QQ := (o_ic (0) (o_istore 3 K108))
def bL_areAlike_99 (Kn : QK) (K41 K108 K160 : ZK QQ) : ZK QQ := (o_istore 2 (o_iinc 3 (1) K41))
def bL_areAlike_98 (Kn : QK) (K41 K108 K160 : ZK QQ) : ZK QQ := (o_ic (0) (bL_areAlike_99 Kn K41 K108 K160))
def bL_areAlike_41 (Kn : QK) (K41 K108 K160 : ZK QQ) : ZK QQ := (o_iload 3 (o_aload 0 (o_rd0 false 80 (fun μ => gTags μ) (o_if2 (fun x y => y ≤ x) (bL_areAlike_106 Kn K41 K108 K160) (o_iload 2 (o_if1 (fun x => x = 0) (bL_areAlike_106 Kn K41 K108 K160) (o_aload 0 (o_iload 3 (o_rd1 false 80 (fun x0 μ => gAlias μ x0) (o_aload 1 (o_iload 3 (o_rd1 true 80 (fun x0 μ => gAlias μ x0) (o_if2 (fun x y => ¬ x = y) (bL_areAlike_98 Kn K41 K108 K160) (o_aload 0 (o_iload 3 (o_rd1 false 80 (fun x0 μ => gUsers μ x0) (o_aload 1 (o_iload 3 (o_rd1 true 80 (fun x0 μ => gUsers μ x0) (o_if2 (fun x y => ¬ x = y) (bL_areAlike_98 Kn K41 K108 K160) (o_aload 0 (o_iload 3 (o_ic (0) (o_rd2 false 80 (fun x0 x1 μ => gLetter μ x0 x1) (o_aload 1 (o_iload 3 (o_ic (0) (o_rd2 true 80 (fun x0 x1 μ => gLetter μ x0 x1) (o_if2 (fun x y => ¬ x = y) (bL_areAlike_98 Kn K41 K108 K160) (o_ic (1) (bL_areAlike_99 Kn K41 K108 K160)))))))))))))))))))))))))))))))
def bL_areAlike_38 (Kn : QK) (K41 K108 K160 : ZK QQ) : ZK QQ := (o_istore 2 (o_ic (0) (o_istore 3 K41)))
def bL_areAlike_37 (Kn : QK) (K41 K108 K160 : ZK QQ) : ZK QQ := (o_ic (0) (bL_areAlike_38 Kn K41 K108 K160))
def bL_areAlike_0 (Kn : QK) (K41 K108 K160 : ZK QQ) : ZK QQ := (o_aload 0 (o_rd0 false 80 (fun μ => gTags μ) (o_aload 1 (o_rd0 true 80 (fun μ => gTags μ) (o_if2 (fun x y => ¬ x = y) (bL_areAlike_37 Kn K41 K108 K160) (o_aload 0 (o_rd0 false 80 (fun μ => gThings μ) (o_aload 1 (o_rd0 true 80 (fun μ => gThings μ) (o_if2 (fun x y => ¬ x = y) (bL_areAlike_37 Kn K41 K108 K160) (o_aload 0 (o_rd0 false 80 (fun μ => gKept μ) (o_aload 1 (o_rd0 true 80 (fun μ => gKept μ) (o_if2 (fun x y => ¬ x = y) (bL_areAlike_37 Kn K41 K108 K160) (o_ic (1) (bL_areAlike_38 Kn K41 K108 K160)))))))))))))))))
set_option maxRecDepth 20000 in
theorem sL_areAlike_195 {l : Launch} {z0 b : Nat} {D : va_G} {cA : Nat → ClassId} {p : Program} {e : Env} {s : State} {m : MethodId} {args : Array Value} {below : List Frame} {meth : Method} {c : Code} {Kn : QK} {K41 K108 K160 : ZK QQ} (hlt : l.stackTraces = false) (C : zCx p l (zRm 9 80 146) s m args meth c cL_areAlike 4 RL z0 D cA 0) (hr : meth.sig.returnType = (some .boolean)) (HL_standing : SemL l z0 b D cA yL_standing (Cond.codeWith yL_standing cL_standing 3 (some .int) [(0, 5, 6, 38)]) 8 124 2 1 tL_standing) (hK41 : Snd p l e (zRm 9 80 146) s m args below meth c 4 z0 b (I2 z0 b D cA 0 s) (c2 0 0) (zQ2 below z0 b D cA Kn args s 80) 41 K41) (hK108 : Snd p l e (zRm 9 80 146) s m args below meth c 4 z0 b (I2 z0 b D cA 0 s) (c2 0 0) (zQ2 below z0 b D cA Kn args s 80) 108 K108) (hK160 : Snd p l e (zRm 9 80 146) s m args below meth c 4 z0 b (I2 z0 b D cA 0 s) (c2 0 0) (zQ2 below z0 b D cA Kn args s 80) 160 K160) : Snd p l e (zRm 9 80 146) s m args below meth c 4 z0 b (I2 z0 b D cA 0 s) (c2 0 0) (zQ2 below z0 b D cA Kn args s 80) 195 (bL_areAlike_195 Kn K41 K108 K160) := by
  obtain ⟨hx, hb, hml, hown, hts, -⟩ := id C
  unfold bL_areAlike_195
  refine k_iload_n hx hb dL_areAlike_195 rfl ?_
  exact k_ret2 C hr dL_areAlike_196
set_option maxRecDepth 20000 in
theorem sL_areAlike_188 {l : Launch} {z0 b : Nat} {D : va_G} {cA : Nat → ClassId} {p : Program} {e : Env} {s : State} {m : MethodId} {args : Array Value} {below : List Frame} {meth : Method} {c : Code} {Kn : QK} {K41 K108 K160 : ZK QQ} (hlt : l.stackTraces = false) (C : zCx p l (zRm 9 80 146) s m args meth c cL_areAlike 4 RL z0 D cA 0) (hr : meth.sig.returnType = (some .boolean)) (HL_standing : SemL l z0 b D cA yL_standing (Cond.codeWith yL_standing cL_standing 3 (some .int) [(0, 5, 6, 38)]) 8 124 2 1 tL_standing) (hK41 : Snd p l e (zRm 9 80 146) s m args below meth c 4 z0 b (I2 z0 b D cA 0 s) (c2 0 0) (zQ2 below z0 b D cA Kn args s 80) 41 K41) (hK108 : Snd p l e (zRm 9 80 146) s m args below meth c 4 z0 b (I2 z0 b D cA 0 s) (c2 0 0) (zQ2 below z0 b D cA Kn args s 80) 108 K108) (hK160 : Snd p l e (zRm 9 80 146) s m args below meth c 4 z0 b (I2 z0 b D cA 0 s) (c2 0 0) (zQ2 below z0 b D cA Kn args s 80) 160 K160) : Snd p l e (zRm 9 80 146) s m args below meth c 4 z0 b (I2 z0 b D cA 0 s) (c2 0 0) (zQ2 below z0 b D cA Kn args s 80) 188 (bL_areAlike_188 Kn K41 K108 K160) := by
  obtain ⟨hx, hb, hml, hown, hts, -⟩ := id C
  unfold bL_areAlike_188
  refine k_istore_n hx hb dL_areAlike_188 rfl ?_
  refine k_iinc hx hb dL_areAlike_189 (by decide) ?_
  refine k_goto (tgt := 160) hx hb dL_areAlike_192 (by decide) ?_
  exact hK160
set_option maxRecDepth 20000 in
theorem sL_areAlike_160 {l : Launch} {z0 b : Nat} {D : va_G} {cA : Nat → ClassId} {p : Program} {e : Env} {s : State} {m : MethodId} {args : Array Value} {below : List Frame} {meth : Method} {c : Code} {Kn : QK} {K41 K108 K160 : ZK QQ} (hlt : l.stackTraces = false) (C : zCx p l (zRm 9 80 146) s m args meth c cL_areAlike 4 RL z0 D cA 0) (hr : meth.sig.returnType = (some .boolean)) (HL_standing : SemL l z0 b D cA yL_standing (Cond.codeWith yL_standing cL_standing 3 (some .int) [(0, 5, 6, 38)]) 8 124 2 1 tL_standing) (hK41 : Snd p l e (zRm 9 80 146) s m args below meth c 4 z0 b (I2 z0 b D cA 0 s) (c2 0 0) (zQ2 below z0 b D cA Kn args s 80) 41 K41) (hK108 : Snd p l e (zRm 9 80 146) s m args below meth c 4 z0 b (I2 z0 b D cA 0 s) (c2 0 0) (zQ2 below z0 b D cA Kn args s 80) 108 K108) (hK160 : Snd p l e (zRm 9 80 146) s m args below meth c 4 z0 b (I2 z0 b D cA 0 s) (c2 0 0) (zQ2 below z0 b D cA Kn args s 80) 160 K160) : Snd p l e (zRm 9 80 146) s m args below meth c 4 z0 b (I2 z0 b D cA 0 s) (c2 0 0) (zQ2 below z0 b D cA Kn args s 80) 160 (bL_areAlike_160 Kn K41 K108 K160) := by
  obtain ⟨hx, hb, hml, hown, hts, -⟩ := id C
  unfold bL_areAlike_160
  refine k_iload_n hx hb dL_areAlike_160 rfl ?_
  refine k_bipush hx hb dL_areAlike_161 (by decide) ?_
  refine k_icmp_ge (tgt := 195) hx hb dL_areAlike_163 (by decide) ?_ ?_
  · exact sL_areAlike_195 hlt C hr HL_standing hK41 hK108 hK160
  · refine k_iload_n hx hb dL_areAlike_166 rfl ?_
    refine k_if_eq (tgt := 195) hx hb dL_areAlike_167 (by decide) ?_ ?_
    · exact sL_areAlike_195 hlt C hr HL_standing hK41 hK108 hK160
    · refine k_aload_n hx hb dL_areAlike_170 rfl ?_
      refine k_iload_n hx hb dL_areAlike_171 rfl ?_
      refine k_cLW C HL_standing zlL_96 zsL_standing ziL zwL_standing (by decide +kernel) ⟨Nat.le_of_ble_eq_true rfl, Nat.le_of_ble_eq_true rfl⟩ ⟨Nat.le_of_ble_eq_true rfl, Nat.le_of_ble_eq_true rfl⟩ dL_areAlike_172 ?_
      refine k_aload_n hx hb dL_areAlike_175 rfl ?_
      refine k_iload_n hx hb dL_areAlike_176 rfl ?_
      refine k_cLW C HL_standing zlL_96 zsL_standing ziL zwL_standing (by decide +kernel) ⟨Nat.le_of_ble_eq_true rfl, Nat.le_of_ble_eq_true rfl⟩ ⟨Nat.le_of_ble_eq_true rfl, Nat.le_of_ble_eq_true rfl⟩ dL_areAlike_177 ?_
      refine k_icmp_ne (tgt := 187) hx hb dL_areAlike_180 (by decide) ?_ ?_
      · refine k_iconst hx hb dL_areAlike_187 (by decide) ?_
        exact sL_areAlike_188 hlt C hr HL_standing hK41 hK108 hK160
      · refine k_iconst hx hb dL_areAlike_183 (by decide) ?_
        refine k_goto (tgt := 188) hx hb dL_areAlike_184 (by decide) ?_
        exact sL_areAlike_188 hlt C hr HL_standing hK41 hK108 hK160
set_option maxRecDepth 20000 in
theorem sL_areAlike_158 {l : Launch} {z0 b : Nat} {D : va_G} {cA : Nat → ClassId} {p : Program} {e : Env} {s : State} {m : MethodId} {args : Array Value} {below : List Frame} {meth : Method} {c : Code} {Kn : QK} {K41 K108 K160 : ZK QQ} (hlt : l.stackTraces = false) (C : zCx p l (zRm 9 80 146) s m args meth c cL_areAlike 4 RL z0 D cA 0) (hr : meth.sig.returnType = (some .boolean)) (HL_standing : SemL l z0 b D cA yL_standing (Cond.codeWith yL_standing cL_standing 3 (some .int) [(0, 5, 6, 38)]) 8 124 2 1 tL_standing) (hK41 : Snd p l e (zRm 9 80 146) s m args below meth c 4 z0 b (I2 z0 b D cA 0 s) (c2 0 0) (zQ2 below z0 b D cA Kn args s 80) 41 K41) (hK108 : Snd p l e (zRm 9 80 146) s m args below meth c 4 z0 b (I2 z0 b D cA 0 s) (c2 0 0) (zQ2 below z0 b D cA Kn args s 80) 108 K108) (hK160 : Snd p l e (zRm 9 80 146) s m args below meth c 4 z0 b (I2 z0 b D cA 0 s) (c2 0 0) (zQ2 below z0 b D cA Kn args s 80) 160 K160) : Snd p l e (zRm 9 80 146) s m args below meth c 4 z0 b (I2 z0 b D cA 0 s) (c2 0 0) (zQ2 below z0 b D cA Kn args s 80) 158 (bL_areAlike_158 Kn K41 K108 K160) := by
  obtain ⟨hx, hb, hml, hown, hts, -⟩ := id C
  unfold bL_areAlike_158
  refine k_iconst hx hb dL_areAlike_158 (by decide) ?_
  refine k_istore_n hx hb dL_areAlike_159 rfl ?_
  exact hK160
set_option maxRecDepth 20000 in
theorem sL_areAlike_151 {l : Launch} {z0 b : Nat} {D : va_G} {cA : Nat → ClassId} {p : Program} {e : Env} {s : State} {m : MethodId} {args : Array Value} {below : List Frame} {meth : Method} {c : Code} {Kn : QK} {K41 K108 K160 : ZK QQ} (hlt : l.stackTraces = false) (C : zCx p l (zRm 9 80 146) s m args meth c cL_areAlike 4 RL z0 D cA 0) (hr : meth.sig.returnType = (some .boolean)) (HL_standing : SemL l z0 b D cA yL_standing (Cond.codeWith yL_standing cL_standing 3 (some .int) [(0, 5, 6, 38)]) 8 124 2 1 tL_standing) (hK41 : Snd p l e (zRm 9 80 146) s m args below meth c 4 z0 b (I2 z0 b D cA 0 s) (c2 0 0) (zQ2 below z0 b D cA Kn args s 80) 41 K41) (hK108 : Snd p l e (zRm 9 80 146) s m args below meth c 4 z0 b (I2 z0 b D cA 0 s) (c2 0 0) (zQ2 below z0 b D cA Kn args s 80) 108 K108) (hK160 : Snd p l e (zRm 9 80 146) s m args below meth c 4 z0 b (I2 z0 b D cA 0 s) (c2 0 0) (zQ2 below z0 b D cA Kn args s 80) 160 K160) : Snd p l e (zRm 9 80 146) s m args below meth c 4 z0 b (I2 z0 b D cA 0 s) (c2 0 0) (zQ2 below z0 b D cA Kn args s 80) 151 (bL_areAlike_151 Kn K41 K108 K160) := by
  obtain ⟨hx, hb, hml, hown, hts, -⟩ := id C
  unfold bL_areAlike_151
  refine k_istore_n hx hb dL_areAlike_151 rfl ?_
  refine k_iinc hx hb dL_areAlike_152 (by decide) ?_
  refine k_goto (tgt := 108) hx hb dL_areAlike_155 (by decide) ?_
  exact hK108
set_option maxRecDepth 20000 in
theorem sL_areAlike_150 {l : Launch} {z0 b : Nat} {D : va_G} {cA : Nat → ClassId} {p : Program} {e : Env} {s : State} {m : MethodId} {args : Array Value} {below : List Frame} {meth : Method} {c : Code} {Kn : QK} {K41 K108 K160 : ZK QQ} (hlt : l.stackTraces = false) (C : zCx p l (zRm 9 80 146) s m args meth c cL_areAlike 4 RL z0 D cA 0) (hr : meth.sig.returnType = (some .boolean)) (HL_standing : SemL l z0 b D cA yL_standing (Cond.codeWith yL_standing cL_standing 3 (some .int) [(0, 5, 6, 38)]) 8 124 2 1 tL_standing) (hK41 : Snd p l e (zRm 9 80 146) s m args below meth c 4 z0 b (I2 z0 b D cA 0 s) (c2 0 0) (zQ2 below z0 b D cA Kn args s 80) 41 K41) (hK108 : Snd p l e (zRm 9 80 146) s m args below meth c 4 z0 b (I2 z0 b D cA 0 s) (c2 0 0) (zQ2 below z0 b D cA Kn args s 80) 108 K108) (hK160 : Snd p l e (zRm 9 80 146) s m args below meth c 4 z0 b (I2 z0 b D cA 0 s) (c2 0 0) (zQ2 below z0 b D cA Kn args s 80) 160 K160) : Snd p l e (zRm 9 80 146) s m args below meth c 4 z0 b (I2 z0 b D cA 0 s) (c2 0 0) (zQ2 below z0 b D cA Kn args s 80) 150 (bL_areAlike_150 Kn K41 K108 K160) := by
  obtain ⟨hx, hb, hml, hown, hts, -⟩ := id C
  unfold bL_areAlike_150
  refine k_iconst hx hb dL_areAlike_150 (by decide) ?_
  exact sL_areAlike_151 hlt C hr HL_standing hK41 hK108 hK160
set_option maxRecDepth 20000 in
theorem sL_areAlike_108 {l : Launch} {z0 b : Nat} {D : va_G} {cA : Nat → ClassId} {p : Program} {e : Env} {s : State} {m : MethodId} {args : Array Value} {below : List Frame} {meth : Method} {c : Code} {Kn : QK} {K41 K108 K160 : ZK QQ} (hlt : l.stackTraces = false) (C : zCx p l (zRm 9 80 146) s m args meth c cL_areAlike 4 RL z0 D cA 0) (hr : meth.sig.returnType = (some .boolean)) (HL_standing : SemL l z0 b D cA yL_standing (Cond.codeWith yL_standing cL_standing 3 (some .int) [(0, 5, 6, 38)]) 8 124 2 1 tL_standing) (hK41 : Snd p l e (zRm 9 80 146) s m args below meth c 4 z0 b (I2 z0 b D cA 0 s) (c2 0 0) (zQ2 below z0 b D cA Kn args s 80) 41 K41) (hK108 : Snd p l e (zRm 9 80 146) s m args below meth c 4 z0 b (I2 z0 b D cA 0 s) (c2 0 0) (zQ2 below z0 b D cA Kn args s 80) 108 K108) (hK160 : Snd p l e (zRm 9 80 146) s m args below meth c 4 z0 b (I2 z0 b D cA 0 s) (c2 0 0) (zQ2 below z0 b D cA Kn args s 80) 160 K160) : Snd p l e (zRm 9 80 146) s m args below meth c 4 z0 b (I2 z0 b D cA 0 s) (c2 0 0) (zQ2 below z0 b D cA Kn args s 80) 108 (bL_areAlike_108 Kn K41 K108 K160) := by
  obtain ⟨hx, hb, hml, hown, hts, -⟩ := id C
  unfold bL_areAlike_108
  refine k_iload_n hx hb dL_areAlike_108 rfl ?_
  refine k_aload_n hx hb dL_areAlike_109 rfl ?_
  refine k_rd0 C (i := false) (MB := 80) (g := (fun μ => gThings μ)) (wp := w11) (fun z0 N => mX5_things hlt) (fun σ μ h => sim_things h) w11_n (fun μ => ro_things) rfl zlL_73 zmX5_things zvX5_things ziX5 zcX5_things (by decide +kernel) ⟨Nat.le_of_ble_eq_true rfl, Nat.le_of_ble_eq_true rfl⟩ ⟨Nat.le_of_ble_eq_true rfl, Nat.le_of_ble_eq_true rfl⟩ dL_areAlike_110 ?_
  refine k_icmp_ge (tgt := 158) hx hb dL_areAlike_113 (by decide) ?_ ?_
  · exact sL_areAlike_158 hlt C hr HL_standing hK41 hK108 hK160
  · refine k_iload_n hx hb dL_areAlike_116 rfl ?_
    refine k_if_eq (tgt := 158) hx hb dL_areAlike_117 (by decide) ?_ ?_
    · exact sL_areAlike_158 hlt C hr HL_standing hK41 hK108 hK160
    · refine k_aload_n hx hb dL_areAlike_120 rfl ?_
      refine k_iload_n hx hb dL_areAlike_121 rfl ?_
      refine k_rd1 C (i := false) (MB := 80) (g := (fun x0 μ => gHand μ x0)) (wp := w21) (fun z0 N => mX5_hand hlt) (fun x0 σ μ h => sim_hand h) w21_n (fun x0 μ => ro_hand) rfl zlL_90 zmX5_hand zvX5_hand ziX5 zcX5_hand (by decide +kernel) ⟨Nat.le_of_ble_eq_true rfl, Nat.le_of_ble_eq_true rfl⟩ ⟨Nat.le_of_ble_eq_true rfl, Nat.le_of_ble_eq_true rfl⟩ dL_areAlike_122 ?_
      refine k_aload_n hx hb dL_areAlike_125 rfl ?_
      refine k_iload_n hx hb dL_areAlike_126 rfl ?_
      refine k_rd1 C (i := true) (MB := 80) (g := (fun x0 μ => gHand μ x0)) (wp := w21) (fun z0 N => mX5_hand hlt) (fun x0 σ μ h => sim_hand h) w21_n (fun x0 μ => ro_hand) rfl zlL_90 zmX5_hand zvX5_hand ziX5 zcX5_hand (by decide +kernel) ⟨Nat.le_of_ble_eq_true rfl, Nat.le_of_ble_eq_true rfl⟩ ⟨Nat.le_of_ble_eq_true rfl, Nat.le_of_ble_eq_true rfl⟩ dL_areAlike_127 ?_
      refine k_icmp_ne (tgt := 150) hx hb dL_areAlike_130 (by decide) ?_ ?_
      · exact sL_areAlike_150 hlt C hr HL_standing hK41 hK108 hK160
      · refine k_aload_n hx hb dL_areAlike_133 rfl ?_
        refine k_iload_n hx hb dL_areAlike_134 rfl ?_
        refine k_rd1 C (i := false) (MB := 80) (g := (fun x0 μ => gShown μ x0)) (wp := w21) (fun z0 N => mX5_shown hlt) (fun x0 σ μ h => sim_shown h) w21_n (fun x0 μ => ro_shown) rfl zlL_93 zmX5_shown zvX5_shown ziX5 zcX5_shown (by decide +kernel) ⟨Nat.le_of_ble_eq_true rfl, Nat.le_of_ble_eq_true rfl⟩ ⟨Nat.le_of_ble_eq_true rfl, Nat.le_of_ble_eq_true rfl⟩ dL_areAlike_135 ?_
        refine k_aload_n hx hb dL_areAlike_138 rfl ?_
        refine k_iload_n hx hb dL_areAlike_139 rfl ?_
        refine k_rd1 C (i := true) (MB := 80) (g := (fun x0 μ => gShown μ x0)) (wp := w21) (fun z0 N => mX5_shown hlt) (fun x0 σ μ h => sim_shown h) w21_n (fun x0 μ => ro_shown) rfl zlL_93 zmX5_shown zvX5_shown ziX5 zcX5_shown (by decide +kernel) ⟨Nat.le_of_ble_eq_true rfl, Nat.le_of_ble_eq_true rfl⟩ ⟨Nat.le_of_ble_eq_true rfl, Nat.le_of_ble_eq_true rfl⟩ dL_areAlike_140 ?_
        refine k_icmp_ne (tgt := 150) hx hb dL_areAlike_143 (by decide) ?_ ?_
        · exact sL_areAlike_150 hlt C hr HL_standing hK41 hK108 hK160
        · refine k_iconst hx hb dL_areAlike_146 (by decide) ?_
          refine k_goto (tgt := 151) hx hb dL_areAlike_147 (by decide) ?_
          exact sL_areAlike_151 hlt C hr HL_standing hK41 hK108 hK160
set_option maxRecDepth 20000 in
theorem sL_areAlike_106 {l : Launch} {z0 b : Nat} {D : va_G} {cA : Nat → ClassId} {p : Program} {e : Env} {s : State} {m : MethodId} {args : Array Value} {below : List Frame} {meth : Method} {c : Code} {Kn : QK} {K41 K108 K160 : ZK QQ} (hlt : l.stackTraces = false) (C : zCx p l (zRm 9 80 146) s m args meth c cL_areAlike 4 RL z0 D cA 0) (hr : meth.sig.returnType = (some .boolean)) (HL_standing : SemL l z0 b D cA yL_standing (Cond.codeWith yL_standing cL_standing 3 (some .int) [(0, 5, 6, 38)]) 8 124 2 1 tL_standing) (hK41 : Snd p l e (zRm 9 80 146) s m args below meth c 4 z0 b (I2 z0 b D cA 0 s) (c2 0 0) (zQ2 below z0 b D cA Kn args s 80) 41 K41) (hK108 : Snd p l e (zRm 9 80 146) s m args below meth c 4 z0 b (I2 z0 b D cA 0 s) (c2 0 0) (zQ2 below z0 b D cA Kn args s 80) 108 K108) (hK160 : Snd p l e (zRm 9 80 146) s m args below meth c 4 z0 b (I2 z0 b D cA 0 s) (c2 0 0) (zQ2 below z0 b D cA Kn args s 80) 160 K160) : Snd p l e (zRm 9 80 146) s m args below meth c 4 z0 b (I2 z0 b D cA 0 s) (c2 0 0) (zQ2 below z0 b D cA Kn args s 80) 106 (bL_areAlike_106 Kn K41 K108 K160) := by
  obtain ⟨hx, hb, hml, hown, hts, -⟩ := id C
  unfold bL_areAlike_106
  refine k_iconst hx hb dL_areAlike_106 (by decide) ?_
  refine k_istore_n hx hb dL_areAlike_107 rfl ?_
  exact hK108
set_option maxRecDepth 20000 in
theorem sL_areAlike_99 {l : Launch} {z0 b : Nat} {D : va_G} {cA : Nat → ClassId} {p : Program} {e : Env} {s : State} {m : MethodId} {args : Array Value} {below : List Frame} {meth : Method} {c : Code} {Kn : QK} {K41 K108 K160 : ZK QQ} (hlt : l.stackTraces = false) (C : zCx p l (zRm 9 80 146) s m args meth c cL_areAlike 4 RL z0 D cA 0) (hr : meth.sig.returnType = (some .boolean)) (HL_standing : SemL l z0 b D cA yL_standing (Cond.codeWith yL_standing cL_standing 3 (some .int) [(0, 5, 6, 38)]) 8 124 2 1 tL_standing) (hK41 : Snd p l e (zRm 9 80 146) s m args below meth c 4 z0 b (I2 z0 b D cA 0 s) (c2 0 0) (zQ2 below z0 b D cA Kn args s 80) 41 K41) (hK108 : Snd p l e (zRm 9 80 146) s m args below meth c 4 z0 b (I2 z0 b D cA 0 s) (c2 0 0) (zQ2 below z0 b D cA Kn args s 80) 108 K108) (hK160 : Snd p l e (zRm 9 80 146) s m args below meth c 4 z0 b (I2 z0 b D cA 0 s) (c2 0 0) (zQ2 below z0 b D cA Kn args s 80) 160 K160) : Snd p l e (zRm 9 80 146) s m args below meth c 4 z0 b (I2 z0 b D cA 0 s) (c2 0 0) (zQ2 below z0 b D cA Kn args s 80) 99 (bL_areAlike_99 Kn K41 K108 K160) := by
  obtain ⟨hx, hb, hml, hown, hts, -⟩ := id C
  unfold bL_areAlike_99
  refine k_istore_n hx hb dL_areAlike_99 rfl ?_
  refine k_iinc hx hb dL_areAlike_100 (by decide) ?_
  refine k_goto (tgt := 41) hx hb dL_areAlike_103 (by decide) ?_
  exact hK41
set_option maxRecDepth 20000 in
theorem sL_areAlike_98 {l : Launch} {z0 b : Nat} {D : va_G} {cA : Nat → ClassId} {p : Program} {e : Env} {s : State} {m : MethodId} {args : Array Value} {below : List Frame} {meth : Method} {c : Code} {Kn : QK} {K41 K108 K160 : ZK QQ} (hlt : l.stackTraces = false) (C : zCx p l (zRm 9 80 146) s m args meth c cL_areAlike 4 RL z0 D cA 0) (hr : meth.sig.returnType = (some .boolean)) (HL_standing : SemL l z0 b D cA yL_standing (Cond.codeWith yL_standing cL_standing 3 (some .int) [(0, 5, 6, 38)]) 8 124 2 1 tL_standing) (hK41 : Snd p l e (zRm 9 80 146) s m args below meth c 4 z0 b (I2 z0 b D cA 0 s) (c2 0 0) (zQ2 below z0 b D cA Kn args s 80) 41 K41) (hK108 : Snd p l e (zRm 9 80 146) s m args below meth c 4 z0 b (I2 z0 b D cA 0 s) (c2 0 0) (zQ2 below z0 b D cA Kn args s 80) 108 K108) (hK160 : Snd p l e (zRm 9 80 146) s m args below meth c 4 z0 b (I2 z0 b D cA 0 s) (c2 0 0) (zQ2 below z0 b D cA Kn args s 80) 160 K160) : Snd p l e (zRm 9 80 146) s m args below meth c 4 z0 b (I2 z0 b D cA 0 s) (c2 0 0) (zQ2 below z0 b D cA Kn args s 80) 98 (bL_areAlike_98 Kn K41 K108 K160) := by
  obtain ⟨hx, hb, hml, hown, hts, -⟩ := id C
  unfold bL_areAlike_98
  refine k_iconst hx hb dL_areAlike_98 (by decide) ?_
  exact sL_areAlike_99 hlt C hr HL_standing hK41 hK108 hK160
set_option maxRecDepth 20000 in
theorem sL_areAlike_41 {l : Launch} {z0 b : Nat} {D : va_G} {cA : Nat → ClassId} {p : Program} {e : Env} {s : State} {m : MethodId} {args : Array Value} {below : List Frame} {meth : Method} {c : Code} {Kn : QK} {K41 K108 K160 : ZK QQ} (hlt : l.stackTraces = false) (C : zCx p l (zRm 9 80 146) s m args meth c cL_areAlike 4 RL z0 D cA 0) (hr : meth.sig.returnType = (some .boolean)) (HL_standing : SemL l z0 b D cA yL_standing (Cond.codeWith yL_standing cL_standing 3 (some .int) [(0, 5, 6, 38)]) 8 124 2 1 tL_standing) (hK41 : Snd p l e (zRm 9 80 146) s m args below meth c 4 z0 b (I2 z0 b D cA 0 s) (c2 0 0) (zQ2 below z0 b D cA Kn args s 80) 41 K41) (hK108 : Snd p l e (zRm 9 80 146) s m args below meth c 4 z0 b (I2 z0 b D cA 0 s) (c2 0 0) (zQ2 below z0 b D cA Kn args s 80) 108 K108) (hK160 : Snd p l e (zRm 9 80 146) s m args below meth c 4 z0 b (I2 z0 b D cA 0 s) (c2 0 0) (zQ2 below z0 b D cA Kn args s 80) 160 K160) : Snd p l e (zRm 9 80 146) s m args below meth c 4 z0 b (I2 z0 b D cA 0 s) (c2 0 0) (zQ2 below z0 b D cA Kn args s 80) 41 (bL_areAlike_41 Kn K41 K108 K160) := by
  obtain ⟨hx, hb, hml, hown, hts, -⟩ := id C
  unfold bL_areAlike_41
  refine k_iload_n hx hb dL_areAlike_41 rfl ?_
  refine k_aload_n hx hb dL_areAlike_42 rfl ?_
  refine k_rd0 C (i := false) (MB := 80) (g := (fun μ => gTags μ)) (wp := w11) (fun z0 N => mX5_tags hlt) (fun σ μ h => sim_tags h) w11_n (fun μ => ro_tags) rfl zlL_63 zmX5_tags zvX5_tags ziX5 zcX5_tags (by decide +kernel) ⟨Nat.le_of_ble_eq_true rfl, Nat.le_of_ble_eq_true rfl⟩ ⟨Nat.le_of_ble_eq_true rfl, Nat.le_of_ble_eq_true rfl⟩ dL_areAlike_43 ?_
  refine k_icmp_ge (tgt := 106) hx hb dL_areAlike_46 (by decide) ?_ ?_
  · exact sL_areAlike_106 hlt C hr HL_standing hK41 hK108 hK160
  · refine k_iload_n hx hb dL_areAlike_49 rfl ?_
    refine k_if_eq (tgt := 106) hx hb dL_areAlike_50 (by decide) ?_ ?_
    · exact sL_areAlike_106 hlt C hr HL_standing hK41 hK108 hK160
    · refine k_aload_n hx hb dL_areAlike_53 rfl ?_
      refine k_iload_n hx hb dL_areAlike_54 rfl ?_
      refine k_rd1 C (i := false) (MB := 80) (g := (fun x0 μ => gAlias μ x0)) (wp := w21) (fun z0 N => mX5_alias hlt) (fun x0 σ μ h => sim_alias h) w21_n (fun x0 μ => ro_alias) rfl zlL_80 zmX5_alias zvX5_alias ziX5 zcX5_alias (by decide +kernel) ⟨Nat.le_of_ble_eq_true rfl, Nat.le_of_ble_eq_true rfl⟩ ⟨Nat.le_of_ble_eq_true rfl, Nat.le_of_ble_eq_true rfl⟩ dL_areAlike_55 ?_
      refine k_aload_n hx hb dL_areAlike_58 rfl ?_
      refine k_iload_n hx hb dL_areAlike_59 rfl ?_
      refine k_rd1 C (i := true) (MB := 80) (g := (fun x0 μ => gAlias μ x0)) (wp := w21) (fun z0 N => mX5_alias hlt) (fun x0 σ μ h => sim_alias h) w21_n (fun x0 μ => ro_alias) rfl zlL_80 zmX5_alias zvX5_alias ziX5 zcX5_alias (by decide +kernel) ⟨Nat.le_of_ble_eq_true rfl, Nat.le_of_ble_eq_true rfl⟩ ⟨Nat.le_of_ble_eq_true rfl, Nat.le_of_ble_eq_true rfl⟩ dL_areAlike_60 ?_
      refine k_icmp_ne (tgt := 98) hx hb dL_areAlike_63 (by decide) ?_ ?_
      · exact sL_areAlike_98 hlt C hr HL_standing hK41 hK108 hK160
      · refine k_aload_n hx hb dL_areAlike_66 rfl ?_
        refine k_iload_n hx hb dL_areAlike_67 rfl ?_
        refine k_rd1 C (i := false) (MB := 80) (g := (fun x0 μ => gUsers μ x0)) (wp := w21) (fun z0 N => mX5_users hlt) (fun x0 σ μ h => sim_users h) w21_n (fun x0 μ => ro_users) rfl zlL_83 zmX5_users zvX5_users ziX5 zcX5_users (by decide +kernel) ⟨Nat.le_of_ble_eq_true rfl, Nat.le_of_ble_eq_true rfl⟩ ⟨Nat.le_of_ble_eq_true rfl, Nat.le_of_ble_eq_true rfl⟩ dL_areAlike_68 ?_
        refine k_aload_n hx hb dL_areAlike_71 rfl ?_
        refine k_iload_n hx hb dL_areAlike_72 rfl ?_
        refine k_rd1 C (i := true) (MB := 80) (g := (fun x0 μ => gUsers μ x0)) (wp := w21) (fun z0 N => mX5_users hlt) (fun x0 σ μ h => sim_users h) w21_n (fun x0 μ => ro_users) rfl zlL_83 zmX5_users zvX5_users ziX5 zcX5_users (by decide +kernel) ⟨Nat.le_of_ble_eq_true rfl, Nat.le_of_ble_eq_true rfl⟩ ⟨Nat.le_of_ble_eq_true rfl, Nat.le_of_ble_eq_true rfl⟩ dL_areAlike_73 ?_
        refine k_icmp_ne (tgt := 98) hx hb dL_areAlike_76 (by decide) ?_ ?_
        · exact sL_areAlike_98 hlt C hr HL_standing hK41 hK108 hK160
        · refine k_aload_n hx hb dL_areAlike_79 rfl ?_
          refine k_iload_n hx hb dL_areAlike_80 rfl ?_
          refine k_iconst hx hb dL_areAlike_81 (by decide) ?_
          refine k_rd2 C (i := false) (MB := 80) (g := (fun x0 x1 μ => gLetter μ x0 x1)) (wp := w21) (fun z0 N => mX5_letter hlt) (fun x0 x1 σ μ h => sim_letter h) w21_n (fun x0 x1 μ => ro_letter) rfl zlL_86 zmX5_letter zvX5_letter ziX5 zcX5_letter (by decide +kernel) ⟨Nat.le_of_ble_eq_true rfl, Nat.le_of_ble_eq_true rfl⟩ ⟨Nat.le_of_ble_eq_true rfl, Nat.le_of_ble_eq_true rfl⟩ dL_areAlike_82 ?_
          refine k_aload_n hx hb dL_areAlike_85 rfl ?_
          refine k_iload_n hx hb dL_areAlike_86 rfl ?_
          refine k_iconst hx hb dL_areAlike_87 (by decide) ?_
          refine k_rd2 C (i := true) (MB := 80) (g := (fun x0 x1 μ => gLetter μ x0 x1)) (wp := w21) (fun z0 N => mX5_letter hlt) (fun x0 x1 σ μ h => sim_letter h) w21_n (fun x0 x1 μ => ro_letter) rfl zlL_86 zmX5_letter zvX5_letter ziX5 zcX5_letter (by decide +kernel) ⟨Nat.le_of_ble_eq_true rfl, Nat.le_of_ble_eq_true rfl⟩ ⟨Nat.le_of_ble_eq_true rfl, Nat.le_of_ble_eq_true rfl⟩ dL_areAlike_88 ?_
          refine k_icmp_ne (tgt := 98) hx hb dL_areAlike_91 (by decide) ?_ ?_
          · exact sL_areAlike_98 hlt C hr HL_standing hK41 hK108 hK160
          · refine k_iconst hx hb dL_areAlike_94 (by decide) ?_
            refine k_goto (tgt := 99) hx hb dL_areAlike_95 (by decide) ?_
            exact sL_areAlike_99 hlt C hr HL_standing hK41 hK108 hK160
set_option maxRecDepth 20000 in
theorem sL_areAlike_38 {l : Launch} {z0 b : Nat} {D : va_G} {cA : Nat → ClassId} {p : Program} {e : Env} {s : State} {m : MethodId} {args : Array Value} {below : List Frame} {meth : Method} {c : Code} {Kn : QK} {K41 K108 K160 : ZK QQ} (hlt : l.stackTraces = false) (C : zCx p l (zRm 9 80 146) s m args meth c cL_areAlike 4 RL z0 D cA 0) (hr : meth.sig.returnType = (some .boolean)) (HL_standing : SemL l z0 b D cA yL_standing (Cond.codeWith yL_standing cL_standing 3 (some .int) [(0, 5, 6, 38)]) 8 124 2 1 tL_standing) (hK41 : Snd p l e (zRm 9 80 146) s m args below meth c 4 z0 b (I2 z0 b D cA 0 s) (c2 0 0) (zQ2 below z0 b D cA Kn args s 80) 41 K41) (hK108 : Snd p l e (zRm 9 80 146) s m args below meth c 4 z0 b (I2 z0 b D cA 0 s) (c2 0 0) (zQ2 below z0 b D cA Kn args s 80) 108 K108) (hK160 : Snd p l e (zRm 9 80 146) s m args below meth c 4 z0 b (I2 z0 b D cA 0 s) (c2 0 0) (zQ2 below z0 b D cA Kn args s 80) 160 K160) : Snd p l e (zRm 9 80 146) s m args below meth c 4 z0 b (I2 z0 b D cA 0 s) (c2 0 0) (zQ2 below z0 b D cA Kn args s 80) 38 (bL_areAlike_38 Kn K41 K108 K160) := by
  obtain ⟨hx, hb, hml, hown, hts, -⟩ := id C
  unfold bL_areAlike_38
  refine k_istore_n hx hb dL_areAlike_38 rfl ?_
  refine k_iconst hx hb dL_areAlike_39 (by decide) ?_
  refine k_istore_n hx hb dL_areAlike_40 rfl ?_
  exact hK41
set_option maxRecDepth 20000 in
theorem sL_areAlike_37 {l : Launch} {z0 b : Nat} {D : va_G} {cA : Nat → ClassId} {p : Program} {e : Env} {s : State} {m : MethodId} {args : Array Value} {below : List Frame} {meth : Method} {c : Code} {Kn : QK} {K41 K108 K160 : ZK QQ} (hlt : l.stackTraces = false) (C : zCx p l (zRm 9 80 146) s m args meth c cL_areAlike 4 RL z0 D cA 0) (hr : meth.sig.returnType = (some .boolean)) (HL_standing : SemL l z0 b D cA yL_standing (Cond.codeWith yL_standing cL_standing 3 (some .int) [(0, 5, 6, 38)]) 8 124 2 1 tL_standing) (hK41 : Snd p l e (zRm 9 80 146) s m args below meth c 4 z0 b (I2 z0 b D cA 0 s) (c2 0 0) (zQ2 below z0 b D cA Kn args s 80) 41 K41) (hK108 : Snd p l e (zRm 9 80 146) s m args below meth c 4 z0 b (I2 z0 b D cA 0 s) (c2 0 0) (zQ2 below z0 b D cA Kn args s 80) 108 K108) (hK160 : Snd p l e (zRm 9 80 146) s m args below meth c 4 z0 b (I2 z0 b D cA 0 s) (c2 0 0) (zQ2 below z0 b D cA Kn args s 80) 160 K160) : Snd p l e (zRm 9 80 146) s m args below meth c 4 z0 b (I2 z0 b D cA 0 s) (c2 0 0) (zQ2 below z0 b D cA Kn args s 80) 37 (bL_areAlike_37 Kn K41 K108 K160) := by
  obtain ⟨hx, hb, hml, hown, hts, -⟩ := id C
  unfold bL_areAlike_37
  refine k_iconst hx hb dL_areAlike_37 (by decide) ?_
  exact sL_areAlike_38 hlt C hr HL_standing hK41 hK108 hK160
set_option maxRecDepth 20000 in
theorem sL_areAlike_0 {l : Launch} {z0 b : Nat} {D : va_G} {cA : Nat → ClassId} {p : Program} {e : Env} {s : State} {m : MethodId} {args : Array Value} {below : List Frame} {meth : Method} {c : Code} {Kn : QK} {K41 K108 K160 : ZK QQ} (hlt : l.stackTraces = false) (C : zCx p l (zRm 9 80 146) s m args meth c cL_areAlike 4 RL z0 D cA 0) (hr : meth.sig.returnType = (some .boolean)) (HL_standing : SemL l z0 b D cA yL_standing (Cond.codeWith yL_standing cL_standing 3 (some .int) [(0, 5, 6, 38)]) 8 124 2 1 tL_standing) (hK41 : Snd p l e (zRm 9 80 146) s m args below meth c 4 z0 b (I2 z0 b D cA 0 s) (c2 0 0) (zQ2 below z0 b D cA Kn args s 80) 41 K41) (hK108 : Snd p l e (zRm 9 80 146) s m args below meth c 4 z0 b (I2 z0 b D cA 0 s) (c2 0 0) (zQ2 below z0 b D cA Kn args s 80) 108 K108) (hK160 : Snd p l e (zRm 9 80 146) s m args below meth c 4 z0 b (I2 z0 b D cA 0 s) (c2 0 0) (zQ2 below z0 b D cA Kn args s 80) 160 K160) : Snd p l e (zRm 9 80 146) s m args below meth c 4 z0 b (I2 z0 b D cA 0 s) (c2 0 0) (zQ2 below z0 b D cA Kn args s 80) 0 (bL_areAlike_0 Kn K41 K108 K160) := by
  obtain ⟨hx, hb, hml, hown, hts, -⟩ := id C
  unfold bL_areAlike_0
  refine k_aload_n hx hb dL_areAlike_0 rfl ?_
  refine k_rd0 C (i := false) (MB := 80) (g := (fun μ => gTags μ)) (wp := w11) (fun z0 N => mX5_tags hlt) (fun σ μ h => sim_tags h) w11_n (fun μ => ro_tags) rfl zlL_63 zmX5_tags zvX5_tags ziX5 zcX5_tags (by decide +kernel) ⟨Nat.le_of_ble_eq_true rfl, Nat.le_of_ble_eq_true rfl⟩ ⟨Nat.le_of_ble_eq_true rfl, Nat.le_of_ble_eq_true rfl⟩ dL_areAlike_1 ?_
  refine k_aload_n hx hb dL_areAlike_4 rfl ?_
  refine k_rd0 C (i := true) (MB := 80) (g := (fun μ => gTags μ)) (wp := w11) (fun z0 N => mX5_tags hlt) (fun σ μ h => sim_tags h) w11_n (fun μ => ro_tags) rfl zlL_63 zmX5_tags zvX5_tags ziX5 zcX5_tags (by decide +kernel) ⟨Nat.le_of_ble_eq_true rfl, Nat.le_of_ble_eq_true rfl⟩ ⟨Nat.le_of_ble_eq_true rfl, Nat.le_of_ble_eq_true rfl⟩ dL_areAlike_5 ?_
  refine k_icmp_ne (tgt := 37) hx hb dL_areAlike_8 (by decide) ?_ ?_
  · exact sL_areAlike_37 hlt C hr HL_standing hK41 hK108 hK160
  · refine k_aload_n hx hb dL_areAlike_11 rfl ?_
    refine k_rd0 C (i := false) (MB := 80) (g := (fun μ => gThings μ)) (wp := w11) (fun z0 N => mX5_things hlt) (fun σ μ h => sim_things h) w11_n (fun μ => ro_things) rfl zlL_73 zmX5_things zvX5_things ziX5 zcX5_things (by decide +kernel) ⟨Nat.le_of_ble_eq_true rfl, Nat.le_of_ble_eq_true rfl⟩ ⟨Nat.le_of_ble_eq_true rfl, Nat.le_of_ble_eq_true rfl⟩ dL_areAlike_12 ?_
    refine k_aload_n hx hb dL_areAlike_15 rfl ?_
    refine k_rd0 C (i := true) (MB := 80) (g := (fun μ => gThings μ)) (wp := w11) (fun z0 N => mX5_things hlt) (fun σ μ h => sim_things h) w11_n (fun μ => ro_things) rfl zlL_73 zmX5_things zvX5_things ziX5 zcX5_things (by decide +kernel) ⟨Nat.le_of_ble_eq_true rfl, Nat.le_of_ble_eq_true rfl⟩ ⟨Nat.le_of_ble_eq_true rfl, Nat.le_of_ble_eq_true rfl⟩ dL_areAlike_16 ?_
    refine k_icmp_ne (tgt := 37) hx hb dL_areAlike_19 (by decide) ?_ ?_
    · exact sL_areAlike_37 hlt C hr HL_standing hK41 hK108 hK160
    · refine k_aload_n hx hb dL_areAlike_22 rfl ?_
      refine k_rd0 C (i := false) (MB := 80) (g := (fun μ => gKept μ)) (wp := w11) (fun z0 N => mX5_kept hlt) (fun σ μ h => sim_kept h) w11_n (fun μ => ro_kept) rfl zlL_77 zmX5_kept zvX5_kept ziX5 zcX5_kept (by decide +kernel) ⟨Nat.le_of_ble_eq_true rfl, Nat.le_of_ble_eq_true rfl⟩ ⟨Nat.le_of_ble_eq_true rfl, Nat.le_of_ble_eq_true rfl⟩ dL_areAlike_23 ?_
      refine k_aload_n hx hb dL_areAlike_26 rfl ?_
      refine k_rd0 C (i := true) (MB := 80) (g := (fun μ => gKept μ)) (wp := w11) (fun z0 N => mX5_kept hlt) (fun σ μ h => sim_kept h) w11_n (fun μ => ro_kept) rfl zlL_77 zmX5_kept zvX5_kept ziX5 zcX5_kept (by decide +kernel) ⟨Nat.le_of_ble_eq_true rfl, Nat.le_of_ble_eq_true rfl⟩ ⟨Nat.le_of_ble_eq_true rfl, Nat.le_of_ble_eq_true rfl⟩ dL_areAlike_27 ?_
      refine k_icmp_ne (tgt := 37) hx hb dL_areAlike_30 (by decide) ?_ ?_
      · exact sL_areAlike_37 hlt C hr HL_standing hK41 hK108 hK160
      · refine k_iconst hx hb dL_areAlike_33 (by decide) ?_
        refine k_goto (tgt := 38) hx hb dL_areAlike_34 (by decide) ?_
        exact sL_areAlike_38 hlt C hr HL_standing hK41 hK108 hK160
set_option maxRecDepth 20000 in
theorem uL_areAlike {l : Launch} {z0 b : Nat} {D : va_G} {cA : Nat → ClassId} (hlt : l.stackTraces = false) (HL_standing : SemL l z0 b D cA yL_standing (Cond.codeWith yL_standing cL_standing 3 (some .int) [(0, 5, 6, 38)]) 8 124 2 1 tL_standing) (spec : ∀ (a : List Value) (μ ν : zMS) (Kn : QK), zok 2 a = true → tL_areAlike a μ ν Kn → ∀ (A : Nat → ZK QQ), (∀ ls st t', bL_areAlike_41 Kn (A 41) (A 108) (A 160) ls st t' → A 41 ls st t') → (∀ ls st t', bL_areAlike_108 Kn (A 41) (A 108) (A 160) ls st t' → A 108 ls st t') → (∀ ls st t', bL_areAlike_160 Kn (A 41) (A 108) (A 160) ls st t' → A 160 ls st t') → bL_areAlike_0 Kn (A 41) (A 108) (A 160) (zE 4 a) [] (μ, ν, 0, 0)) : SemL l z0 b D cA yL_areAlike (Cond.code yL_areAlike cL_areAlike 4 (some .boolean)) 9 146 2 80 tL_areAlike := by
  refine semL_of hlt (by decide +kernel) (by decide) (fun p e s m args below meth c a μ ν Kn hok hN C hr => ?_)
  exact sL_areAlike_0 hlt C hr HL_standing (fun _ _ _ q => q) (fun _ _ _ q => q) (fun _ _ _ q => q) _ _ _ (spec a μ ν Kn hok hN (fun pc => AW p l e (zRm 9 80 146) s m args below meth c 4 z0 b (I2 z0 b D cA 0 s) (c2 0 0) (zQ2 below z0 b D cA Kn args s 80) pc) (fun ls st t' hq => sL_areAlike_41 hlt C hr HL_standing (fun _ _ _ q => q) (fun _ _ _ q => q) (fun _ _ _ q => q) ls st t' hq) (fun ls st t' hq => sL_areAlike_108 hlt C hr HL_standing (fun _ _ _ q => q) (fun _ _ _ q => q) (fun _ _ _ q => q) ls st t' hq) (fun ls st t' hq => sL_areAlike_160 hlt C hr HL_standing (fun _ _ _ q => q) (fun _ _ _ q => q) (fun _ _ _ q => q) ls st t' hq))
