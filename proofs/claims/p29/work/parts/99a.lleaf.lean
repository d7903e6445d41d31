def bL_low_0 (Kn : QK) : ZK QQ := (o_iload 0 (o_ic (2147483647) (o_bin (fun x y => x &&& y) (o_iload 1 (o_irem (o_ret2 0 .int Kn))))))
def bL_type_0 (i : Bool) (Kn : QK) : ZK QQ := (o_aload 0 (o_iload 1 (o_tr1 i 1 (fun x0 => isCh x0) (fun _ => True) (fun x0 μ => gType μ x0) (fun t => t.2.2.1 ≤ 1 ∧ Kn (-99999) t.1 t.2.1 t.2.2.2) (o_ret2 1 .int Kn))))
def bL_standing_0 (i : Bool) (Kn : QK) : ZK QQ := (o_aload 0 (o_iload 1 (o_to1 i 1 (fun x0 => True) (fun _ => True) (fun x0 μ => gStanding μ x0) (fun t => t.2.2.1 ≤ 1 ∧ Kn (-99999) t.1 t.2.1 t.2.2.2) (o_ret2 1 .int Kn))))
def bL_match_0 (i : Bool) (Kn : QK) : ZK QQ := (o_aload 0 (o_iload 1 (o_iload 2 (o_iload 3 (o_iload 4 (o_to4 i 1 (fun x0 x1 x2 x3 => True) (fun cd => ¬ cd = 2) (fun x0 x1 x2 x3 μ => gMatch μ x0 x1 x2 x3) (fun t => t.2.2.1 ≤ 1 ∧ Kn (-99999) t.1 t.2.1 t.2.2.2) (o_ret2 1 .int Kn)))))))
def bL_does_129 (i : Bool) (Kn : QK) : ZK QQ := (o_ret2 1 .int Kn)
def bL_does_119 (i : Bool) (Kn : QK) : ZK QQ := (o_tr3 i 1 (fun _ _ x2 => x2 = 0 ∨ x2 = 1) (fun _ => True) (fun x0 x1 x2 μ => gVote μ x0 x1 (decide (x2 = 1))) (fun t => t.2.2.1 ≤ 1 ∧ Kn (-99999) t.1 t.2.1 t.2.2.2) (bL_does_129 i Kn))
def bL_does_0 (i : Bool) (Kn : QK) : ZK QQ := (o_iload 1 (o_if1 (fun x => ¬ x = 0) (o_iload 1 (o_ic (1) (o_if2 (fun x y => ¬ x = y) (o_iload 1 (o_ic (2) (o_if2 (fun x y => ¬ x = y) (o_iload 1 (o_ic (3) (o_if2 (fun x y => ¬ x = y) (o_iload 1 (o_ic (4) (o_if2 (fun x y => ¬ x = y) (o_iload 1 (o_ic (5) (o_if2 (fun x y => ¬ x = y) (o_iload 1 (o_ic (8) (o_if2 (fun x y => y ≤ x) (o_aload 0 (o_tr0 i 1 True (fun _ => True) (fun μ => gEnter μ) (fun t => t.2.2.1 ≤ 1 ∧ Kn (-99999) t.1 t.2.1 t.2.2.2) (bL_does_129 i Kn))) (o_aload 0 (o_iload 2 (o_iload 3 (o_iload 1 (o_ic (6) (o_if2 (fun x y => ¬ x = y) (o_ic (0) (bL_does_119 i Kn)) (o_ic (1) (bL_does_119 i Kn))))))))))) (o_aload 0 (o_iload 2 (o_iload 3 (o_iload 4 (o_tr3 i 1 (fun x0 x1 x2 => True) (fun _ => True) (fun x0 x1 x2 μ => gAsk μ x0 x1 x2) (fun t => t.2.2.1 ≤ 1 ∧ Kn (-99999) t.1 t.2.1 t.2.2.2) (bL_does_129 i Kn))))))))) (o_aload 0 (o_tr0 i 1 True (fun _ => True) (fun μ => gUndo μ) (fun t => t.2.2.1 ≤ 1 ∧ Kn (-99999) t.1 t.2.1 t.2.2.2) (bL_does_129 i Kn)))))) (o_aload 0 (o_iload 2 (o_iload 3 (o_iload 4 (o_tr3 i 1 (fun x0 x1 x2 => True) (fun _ => True) (fun x0 x1 x2 μ => gMass μ x0 x1 x2) (fun t => t.2.2.1 ≤ 1 ∧ Kn (-99999) t.1 t.2.1 t.2.2.2) (bL_does_129 i Kn))))))))) (o_aload 0 (o_iload 2 (o_iload 3 (o_tr2 i 1 (fun x0 x1 => True) (fun _ => True) (fun x0 x1 μ => gUntag μ x0 x1) (fun t => t.2.2.1 ≤ 1 ∧ Kn (-99999) t.1 t.2.1 t.2.2.2) (o_if1 (fun x => x = 0) (o_ic (0) (bL_does_129 i Kn)) (o_ic (1) (bL_does_129 i Kn)))))))))) (o_aload 0 (o_iload 2 (o_iload 3 (o_tr2 i 1 (fun x0 x1 => True) (fun _ => True) (fun x0 x1 μ => gTag μ x0 x1) (fun t => t.2.2.1 ≤ 1 ∧ Kn (-99999) t.1 t.2.1 t.2.2.2) (o_if1 (fun x => x = 0) (o_ic (0) (bL_does_129 i Kn)) (o_ic (1) (bL_does_129 i Kn)))))))))) (o_aload 0 (o_tr0 i 1 True (fun _ => True) (fun μ => gAddThing μ) (fun t => t.2.2.1 ≤ 1 ∧ Kn (-99999) t.1 t.2.1 t.2.2.2) (bL_does_129 i Kn)))))
set_option maxRecDepth 20000 in
theorem sL_low_0 {l : Launch} {z0 b : Nat} {D : va_G} {cA : Nat → ClassId} {p : Program} {e : Env} {s : State} {m : MethodId} {args : Array Value} {below : List Frame} {meth : Method} {c : Code} {Kn : QK} (hlt : l.stackTraces = false) (C : zCx p l (zRm 0 0 0) s m args meth c cL_low 2 RL z0 D cA 0) (hr : meth.sig.returnType = (some .int)) : Snd p l e (zRm 0 0 0) s m args below meth c 2 z0 b (I2 z0 b D cA 0 s) (c2 0 0) (zQ2 below z0 b D cA Kn args s 0) 0 (bL_low_0 Kn) := by
  obtain ⟨hx, hb, hml, hown, hts, -⟩ := id C
  unfold bL_low_0
  refine k_iload_n hx hb dL_low_0 rfl ?_
  refine k_ldc hx hb hown (hts _ zkL_7) dL_low_1 ?_
  refine k_iand hx hb dL_low_3 ?_
  refine k_iload_n hx hb dL_low_4 rfl ?_
  refine k_irem hx hb dL_low_5 ?_
  exact k_ret2 C hr dL_low_6
set_option maxRecDepth 20000 in
theorem uL_low {l : Launch} {z0 b : Nat} {D : va_G} {cA : Nat → ClassId} (hlt : l.stackTraces = false) (spec : ∀ (a : List Value) (μ ν : zMS) (Kn : QK), zok 2 a = true → tL_low a μ ν Kn → bL_low_0 Kn (zE 2 a) [] (μ, ν, 0, 0)) : SemL l z0 b D cA yL_low (Cond.code yL_low cL_low 2 (some .int)) 0 0 2 0 tL_low := by
  refine semL_of hlt (by decide +kernel) (by decide) (fun p e s m args below meth c a μ ν Kn hok hN C hr => ?_)
  exact sL_low_0 hlt C hr _ _ _ (spec a μ ν Kn hok hN)
set_option maxRecDepth 20000 in
theorem sL_type_0 {l : Launch} {z0 b : Nat} {D : va_G} {cA : Nat → ClassId} {p : Program} {e : Env} {s : State} {m : MethodId} {args : Array Value} {below : List Frame} {meth : Method} {c : Code} {Kn : QK} {i : Bool} (hlt : l.stackTraces = false) (C : zCx p l (zRm 7 1 103) s m args meth c cL_type 3 RL z0 D cA 0) (hr : meth.sig.returnType = (some .int)) (htab : c.exceptionTable.toList = tableOf [(0, 5, 6, 41), (0, 5, 10, 43)]) : Snd p l e (zRm 7 1 103) s m args below meth c 3 z0 b (I2 z0 b D cA 0 s) (c2 0 0) (zQ2 below z0 b D cA Kn args s 1) 0 (bL_type_0 i Kn) := by
  obtain ⟨hx, hb, hml, hown, hts, -⟩ := id C
  unfold bL_type_0
  refine k_aload_n hx hb dL_type_0 rfl ?_
  refine k_iload_n hx hb dL_type_1 rfl ?_
  refine k_tr1 C (i := i) (MB := 1) (g := (fun x0 μ => gType μ x0)) (wp := w01) (Pr := (fun x0 => isCh x0)) (A := (fun _ => True)) (Kh := (fun t => t.2.2.1 ≤ 1 ∧ Kn (-99999) t.1 t.2.1 t.2.2.2)) (fun z0 N => mX5_type hlt) (fun x0 σ μ hp h => sim_type h hp) w01_n rfl zlL_45 zmX5_type zvX5_type ziX5 zcX5_type (by decide +kernel) ⟨Nat.le_of_ble_eq_true rfl, Nat.le_of_ble_eq_true rfl⟩ ⟨Nat.le_of_ble_eq_true rfl, Nat.le_of_ble_eq_true rfl⟩ dL_type_2 ?_ ?_
  · rintro k ⟨a, h, hexc⟩ cd hcd hA
    obtain ⟨-, x, -, -, ⟨-, rfl⟩ | ⟨-, -, rfl⟩⟩ := hexc
    · exact z_hand2 C hr htab (k := 0) [] (⟨0, 5, 6, 41⟩ : ExceptionTableEntry) [(⟨0, 5, 10, 43⟩ : ExceptionTableEntry)] rfl (fun z hz => absurd hz List.not_mem_nil) (by decide) (by decide) znL_41 (by decide +kernel) (len := 1) (fun H locs cells slots L q hL kk => st_n2 hx hb dL_type_6 rfl (by decide) hL kk) zkL_40 dL_type_7 dL_type_9
    · exact z_hand2 C hr htab (k := 1) [(⟨0, 5, 6, 41⟩ : ExceptionTableEntry)] (⟨0, 5, 10, 43⟩ : ExceptionTableEntry) [] rfl (fun z hz => by
        simp only [List.mem_cons, List.not_mem_nil, or_false] at hz
        rcases hz with rfl
        · exact ⟨by decide, "java/lang/IllegalArgumentException", znL_41, by decide +kernel⟩
        ) (by decide) (by decide) znL_43 (by decide +kernel) (len := 1) (fun H locs cells slots L q hL kk => st_n2 hx hb dL_type_10 rfl (by decide) hL kk) zkL_40 dL_type_11 dL_type_13
  exact k_ret2 C hr dL_type_5
set_option maxRecDepth 20000 in
theorem uL_type {l : Launch} {z0 b : Nat} {D : va_G} {cA : Nat → ClassId} (hlt : l.stackTraces = false) (spec : ∀ (a : List Value) (μ ν : zMS) (Kn : QK), zok 2 a = true → tL_type a μ ν Kn → ∃ i : Bool, bL_type_0 i Kn (zE 3 a) [] (μ, ν, 0, 0)) : SemL l z0 b D cA yL_type (Cond.codeWith yL_type cL_type 3 (some .int) [(0, 5, 6, 41), (0, 5, 10, 43)]) 7 103 2 1 tL_type := by
  refine semLW_of hlt (by decide +kernel) (by decide) (fun p e s m args below meth c a μ ν Kn hok hN C hr htab => ?_)
  obtain ⟨i, hi⟩ := spec a μ ν Kn hok hN
  exact sL_type_0 (i := i) hlt C hr htab _ _ _ (hi)
set_option maxRecDepth 20000 in
theorem sL_standing_0 {l : Launch} {z0 b : Nat} {D : va_G} {cA : Nat → ClassId} {p : Program} {e : Env} {s : State} {m : MethodId} {args : Array Value} {below : List Frame} {meth : Method} {c : Code} {Kn : QK} {i : Bool} (hlt : l.stackTraces = false) (C : zCx p l (zRm 8 1 124) s m args meth c cL_standing 3 RL z0 D cA 0) (hr : meth.sig.returnType = (some .int)) (htab : c.exceptionTable.toList = tableOf [(0, 5, 6, 38)]) : Snd p l e (zRm 8 1 124) s m args below meth c 3 z0 b (I2 z0 b D cA 0 s) (c2 0 0) (zQ2 below z0 b D cA Kn args s 1) 0 (bL_standing_0 i Kn) := by
  obtain ⟨hx, hb, hml, hown, hts, -⟩ := id C
  unfold bL_standing_0
  refine k_aload_n hx hb dL_standing_0 rfl ?_
  refine k_iload_n hx hb dL_standing_1 rfl ?_
  refine k_to1 C (i := i) (MB := 1) (g := (fun x0 μ => gStanding μ x0)) (wp := w21) (Pr := (fun x0 => True)) (A := (fun _ => True)) (Kh := (fun t => t.2.2.1 ≤ 1 ∧ Kn (-99999) t.1 t.2.1 t.2.2.2)) (fun z0 N => mX5_standing hlt) (fun x0 σ μ _ h => sim_standing h) w21_n (fun x0 μ => ro_standing) rfl zlL_49 zmX5_standing zvX5_standing ziX5 zcX5_standing (by decide +kernel) ⟨Nat.le_of_ble_eq_true rfl, Nat.le_of_ble_eq_true rfl⟩ ⟨Nat.le_of_ble_eq_true rfl, Nat.le_of_ble_eq_true rfl⟩ dL_standing_2 ?_ ?_
  · rintro k ⟨a, h, hexc⟩ cd hcd hA
    obtain ⟨-, x, -, rfl, -⟩ := hexc
    · exact z_hand2 C hr htab (k := 2) [] (⟨0, 5, 6, 38⟩ : ExceptionTableEntry) [] rfl (fun z hz => absurd hz List.not_mem_nil) (by decide) (by decide) znL_38 (by decide +kernel) (len := 1) (fun H locs cells slots L q hL kk => st_n2 hx hb dL_standing_6 rfl (by decide) hL kk) zkL_40 dL_standing_7 dL_standing_9
  exact k_ret2 C hr dL_standing_5
set_option maxRecDepth 20000 in
theorem uL_standing {l : Launch} {z0 b : Nat} {D : va_G} {cA : Nat → ClassId} (hlt : l.stackTraces = false) (spec : ∀ (a : List Value) (μ ν : zMS) (Kn : QK), zok 2 a = true → tL_standing a μ ν Kn → ∃ i : Bool, bL_standing_0 i Kn (zE 3 a) [] (μ, ν, 0, 0)) : SemL l z0 b D cA yL_standing (Cond.codeWith yL_standing cL_standing 3 (some .int) [(0, 5, 6, 38)]) 8 124 2 1 tL_standing := by
  refine semLW_of hlt (by decide +kernel) (by decide) (fun p e s m args below meth c a μ ν Kn hok hN C hr htab => ?_)
  obtain ⟨i, hi⟩ := spec a μ ν Kn hok hN
  exact sL_standing_0 (i := i) hlt C hr htab _ _ _ (hi)
set_option maxRecDepth 20000 in
theorem sL_match_0 {l : Launch} {z0 b : Nat} {D : va_G} {cA : Nat → ClassId} {p : Program} {e : Env} {s : State} {m : MethodId} {args : Array Value} {below : List Frame} {meth : Method} {c : Code} {Kn : QK} {i : Bool} (hlt : l.stackTraces = false) (C : zCx p l (zRm 8 1 130) s m args meth c cL_match 6 RL z0 D cA 0) (hr : meth.sig.returnType = (some .int)) (htab : c.exceptionTable.toList = tableOf [(0, 9, 10, 38)]) : Snd p l e (zRm 8 1 130) s m args below meth c 6 z0 b (I2 z0 b D cA 0 s) (c2 0 0) (zQ2 below z0 b D cA Kn args s 1) 0 (bL_match_0 i Kn) := by
  obtain ⟨hx, hb, hml, hown, hts, -⟩ := id C
  unfold bL_match_0
  refine k_aload_n hx hb dL_match_0 rfl ?_
  refine k_iload_n hx hb dL_match_1 rfl ?_
  refine k_iload_n hx hb dL_match_2 rfl ?_
  refine k_iload_n hx hb dL_match_3 rfl ?_
  refine k_iload hx hb dL_match_4 ?_
  refine k_to4 C (i := i) (MB := 1) (g := (fun x0 x1 x2 x3 μ => gMatch μ x0 x1 x2 x3)) (wp := w21) (Pr := (fun x0 x1 x2 x3 => True)) (A := (fun cd => ¬ cd = 2)) (Kh := (fun t => t.2.2.1 ≤ 1 ∧ Kn (-99999) t.1 t.2.1 t.2.2.2)) (fun z0 N => mX5_match hlt) (fun x0 x1 x2 x3 σ μ _ h => sim_match h) w21_n (fun x0 x1 x2 x3 μ => ro_match) rfl zlL_53 zmX5_match zvX5_match ziX5 zcX5_match (by decide +kernel) ⟨Nat.le_of_ble_eq_true rfl, Nat.le_of_ble_eq_true rfl⟩ ⟨Nat.le_of_ble_eq_true rfl, Nat.le_of_ble_eq_true rfl⟩ dL_match_6 ?_ ?_
  · rintro k ⟨a, h, hexc⟩ cd hcd hA
    obtain ⟨-, p, x, y, z, -, ⟨-, rfl⟩ | ⟨-, -, rfl⟩ | ⟨-, -, -, rfl⟩⟩ := hexc
    · exact z_hand2 C hr htab (k := 2) [] (⟨0, 9, 10, 38⟩ : ExceptionTableEntry) [] rfl (fun z hz => absurd hz List.not_mem_nil) (by decide) (by decide) znL_38 (by decide +kernel) (len := 2) (fun H locs cells slots L q hL kk => st_w2 hx hb dL_match_10 (by decide) hL kk) zkL_40 dL_match_12 dL_match_14
    · exact absurd hcd hA
    · exact z_hand2 C hr htab (k := 2) [] (⟨0, 9, 10, 38⟩ : ExceptionTableEntry) [] rfl (fun z hz => absurd hz List.not_mem_nil) (by decide) (by decide) znL_38 (by decide +kernel) (len := 2) (fun H locs cells slots L q hL kk => st_w2 hx hb dL_match_10 (by decide) hL kk) zkL_40 dL_match_12 dL_match_14
  exact k_ret2 C hr dL_match_9
set_option maxRecDepth 20000 in
theorem uL_match {l : Launch} {z0 b : Nat} {D : va_G} {cA : Nat → ClassId} (hlt : l.stackTraces = false) (spec : ∀ (a : List Value) (μ ν : zMS) (Kn : QK), zok 5 a = true → tL_match a μ ν Kn → ∃ i : Bool, bL_match_0 i Kn (zE 6 a) [] (μ, ν, 0, 0)) : SemL l z0 b D cA yL_match (Cond.codeWith yL_match cL_match 6 (some .int) [(0, 9, 10, 38)]) 8 130 5 1 tL_match := by
  refine semLW_of hlt (by decide +kernel) (by decide) (fun p e s m args below meth c a μ ν Kn hok hN C hr htab => ?_)
  obtain ⟨i, hi⟩ := spec a μ ν Kn hok hN
  exact sL_match_0 (i := i) hlt C hr htab _ _ _ (hi)
set_option maxRecDepth 20000 in
theorem sL_does_129 {l : Launch} {z0 b : Nat} {D : va_G} {cA : Nat → ClassId} {p : Program} {e : Env} {s : State} {m : MethodId} {args : Array Value} {below : List Frame} {meth : Method} {c : Code} {Kn : QK} {i : Bool} (hlt : l.stackTraces = false) (C : zCx p l (zRm 8 1 158) s m args meth c cL_does 6 RL z0 D cA 0) (hr : meth.sig.returnType = (some .int)) (htab : c.exceptionTable.toList = tableOf [(0, 129, 130, 38), (0, 129, 135, 41), (0, 129, 140, 43)]) : Snd p l e (zRm 8 1 158) s m args below meth c 6 z0 b (I2 z0 b D cA 0 s) (c2 0 0) (zQ2 below z0 b D cA Kn args s 1) 129 (bL_does_129 i Kn) := by
  obtain ⟨hx, hb, hml, hown, hts, -⟩ := id C
  unfold bL_does_129
  exact k_ret2 C hr dL_does_129
set_option maxRecDepth 20000 in
theorem sL_does_119 {l : Launch} {z0 b : Nat} {D : va_G} {cA : Nat → ClassId} {p : Program} {e : Env} {s : State} {m : MethodId} {args : Array Value} {below : List Frame} {meth : Method} {c : Code} {Kn : QK} {i : Bool} (hlt : l.stackTraces = false) (C : zCx p l (zRm 8 1 158) s m args meth c cL_does 6 RL z0 D cA 0) (hr : meth.sig.returnType = (some .int)) (htab : c.exceptionTable.toList = tableOf [(0, 129, 130, 38), (0, 129, 135, 41), (0, 129, 140, 43)]) : Snd p l e (zRm 8 1 158) s m args below meth c 6 z0 b (I2 z0 b D cA 0 s) (c2 0 0) (zQ2 below z0 b D cA Kn args s 1) 119 (bL_does_119 i Kn) := by
  obtain ⟨hx, hb, hml, hown, hts, -⟩ := id C
  unfold bL_does_119
  refine k_tr3 C (i := i) (MB := 1) (g := (fun x0 x1 x2 μ => gVote μ x0 x1 (decide (x2 = 1)))) (wp := w21) (Pr := (fun _ _ x2 => x2 = 0 ∨ x2 = 1)) (A := (fun _ => True)) (Kh := (fun t => t.2.2.1 ≤ 1 ∧ Kn (-99999) t.1 t.2.1 t.2.2.2)) (fun z0 N => mX5_vote hlt) (fun x0 x1 x2 σ μ hp h => sim_vote2 h hp) w21_n rfl zlL_31 zmX5_vote zvX5_vote ziX5 zcX5_vote (by decide +kernel) ⟨Nat.le_of_ble_eq_true rfl, Nat.le_of_ble_eq_true rfl⟩ ⟨Nat.le_of_ble_eq_true rfl, Nat.le_of_ble_eq_true rfl⟩ dL_does_119 ?_ ?_
  · rintro k ⟨a, h, hexc⟩ cd hcd hA
    obtain ⟨-, x, y, z, -, ⟨-, rfl⟩ | ⟨-, -, rfl⟩ | ⟨-, -, -, rfl⟩⟩ := hexc
    · exact z_hand2 C hr htab (k := 2) [] (⟨0, 129, 130, 38⟩ : ExceptionTableEntry) [(⟨0, 129, 135, 41⟩ : ExceptionTableEntry), (⟨0, 129, 140, 43⟩ : ExceptionTableEntry)] rfl (fun z hz => absurd hz List.not_mem_nil) (by decide) (by decide) znL_38 (by decide +kernel) (len := 2) (fun H locs cells slots L q hL kk => st_w2 hx hb dL_does_130 (by decide) hL kk) zkL_40 dL_does_132 dL_does_134
    · exact z_hand2 C hr htab (k := 0) [(⟨0, 129, 130, 38⟩ : ExceptionTableEntry)] (⟨0, 129, 135, 41⟩ : ExceptionTableEntry) [(⟨0, 129, 140, 43⟩ : ExceptionTableEntry)] rfl (fun z hz => by
        simp only [List.mem_cons, List.not_mem_nil, or_false] at hz
        rcases hz with rfl
        · exact ⟨by decide, "java/lang/IndexOutOfBoundsException", znL_38, by decide +kernel⟩
        ) (by decide) (by decide) znL_41 (by decide +kernel) (len := 2) (fun H locs cells slots L q hL kk => st_w2 hx hb dL_does_135 (by decide) hL kk) zkL_40 dL_does_137 dL_does_139
    · exact z_hand2 C hr htab (k := 1) [(⟨0, 129, 130, 38⟩ : ExceptionTableEntry), (⟨0, 129, 135, 41⟩ : ExceptionTableEntry)] (⟨0, 129, 140, 43⟩ : ExceptionTableEntry) [] rfl (fun z hz => by
        simp only [List.mem_cons, List.not_mem_nil, or_false] at hz
        rcases hz with rfl | rfl
        · exact ⟨by decide, "java/lang/IndexOutOfBoundsException", znL_38, by decide +kernel⟩
        · exact ⟨by decide, "java/lang/IllegalArgumentException", znL_41, by decide +kernel⟩
        ) (by decide) (by decide) znL_43 (by decide +kernel) (len := 2) (fun H locs cells slots L q hL kk => st_w2 hx hb dL_does_140 (by decide) hL kk) zkL_40 dL_does_142 dL_does_144
  refine k_goto (tgt := 129) hx hb dL_does_122 (by decide) ?_
  exact sL_does_129 hlt C hr htab
set_option maxRecDepth 20000 in
theorem sL_does_0 {l : Launch} {z0 b : Nat} {D : va_G} {cA : Nat → ClassId} {p : Program} {e : Env} {s : State} {m : MethodId} {args : Array Value} {below : List Frame} {meth : Method} {c : Code} {Kn : QK} {i : Bool} (hlt : l.stackTraces = false) (C : zCx p l (zRm 8 1 158) s m args meth c cL_does 6 RL z0 D cA 0) (hr : meth.sig.returnType = (some .int)) (htab : c.exceptionTable.toList = tableOf [(0, 129, 130, 38), (0, 129, 135, 41), (0, 129, 140, 43)]) : Snd p l e (zRm 8 1 158) s m args below meth c 6 z0 b (I2 z0 b D cA 0 s) (c2 0 0) (zQ2 below z0 b D cA Kn args s 1) 0 (bL_does_0 i Kn) := by
  obtain ⟨hx, hb, hml, hown, hts, -⟩ := id C
  unfold bL_does_0
  refine k_iload_n hx hb dL_does_0 rfl ?_
  refine k_if_ne (tgt := 11) hx hb dL_does_1 (by decide) ?_ ?_
  · refine k_iload_n hx hb dL_does_11 rfl ?_
    refine k_iconst hx hb dL_does_12 (by decide) ?_
    refine k_icmp_ne (tgt := 33) hx hb dL_does_13 (by decide) ?_ ?_
    · refine k_iload_n hx hb dL_does_33 rfl ?_
      refine k_iconst hx hb dL_does_34 (by decide) ?_
      refine k_icmp_ne (tgt := 55) hx hb dL_does_35 (by decide) ?_ ?_
      · refine k_iload_n hx hb dL_does_55 rfl ?_
        refine k_iconst hx hb dL_does_56 (by decide) ?_
        refine k_icmp_ne (tgt := 71) hx hb dL_does_57 (by decide) ?_ ?_
        · refine k_iload_n hx hb dL_does_71 rfl ?_
          refine k_iconst hx hb dL_does_72 (by decide) ?_
          refine k_icmp_ne (tgt := 83) hx hb dL_does_73 (by decide) ?_ ?_
          · refine k_iload_n hx hb dL_does_83 rfl ?_
            refine k_iconst hx hb dL_does_84 (by decide) ?_
            refine k_icmp_ne (tgt := 99) hx hb dL_does_85 (by decide) ?_ ?_
            · refine k_iload_n hx hb dL_does_99 rfl ?_
              refine k_bipush hx hb dL_does_100 (by decide) ?_
              refine k_icmp_ge (tgt := 125) hx hb dL_does_102 (by decide) ?_ ?_
              · refine k_aload_n hx hb dL_does_125 rfl ?_
                refine k_tr0 C (i := i) (MB := 1) (g := (fun μ => gEnter μ)) (wp := w11) (Pr := True) (A := (fun _ => True)) (Kh := (fun t => t.2.2.1 ≤ 1 ∧ Kn (-99999) t.1 t.2.1 t.2.2.2)) (fun z0 N => mX5_enter hlt) (fun σ μ _ h => sim_enter h) w11_n rfl zlL_35 zmX5_enter zvX5_enter ziX5 zcX5_enter (by decide +kernel) ⟨Nat.le_of_ble_eq_true rfl, Nat.le_of_ble_eq_true rfl⟩ ⟨Nat.le_of_ble_eq_true rfl, Nat.le_of_ble_eq_true rfl⟩ dL_does_126 ?_ ?_
                · rintro k ⟨a, h, hexc⟩ cd hcd hA
                  obtain ⟨-, -, rfl, -⟩ := hexc
                  · exact z_hand2 C hr htab (k := 1) [(⟨0, 129, 130, 38⟩ : ExceptionTableEntry), (⟨0, 129, 135, 41⟩ : ExceptionTableEntry)] (⟨0, 129, 140, 43⟩ : ExceptionTableEntry) [] rfl (fun z hz => by
                      simp only [List.mem_cons, List.not_mem_nil, or_false] at hz
                      rcases hz with rfl | rfl
                      · exact ⟨by decide, "java/lang/IndexOutOfBoundsException", znL_38, by decide +kernel⟩
                      · exact ⟨by decide, "java/lang/IllegalArgumentException", znL_41, by decide +kernel⟩
                      ) (by decide) (by decide) znL_43 (by decide +kernel) (len := 2) (fun H locs cells slots L q hL kk => st_w2 hx hb dL_does_140 (by decide) hL kk) zkL_40 dL_does_142 dL_does_144
                exact sL_does_129 hlt C hr htab
              · refine k_aload_n hx hb dL_does_105 rfl ?_
                refine k_iload_n hx hb dL_does_106 rfl ?_
                refine k_iload_n hx hb dL_does_107 rfl ?_
                refine k_iload_n hx hb dL_does_108 rfl ?_
                refine k_bipush hx hb dL_does_109 (by decide) ?_
                refine k_icmp_ne (tgt := 118) hx hb dL_does_111 (by decide) ?_ ?_
                · refine k_iconst hx hb dL_does_118 (by decide) ?_
                  exact sL_does_119 hlt C hr htab
                · refine k_iconst hx hb dL_does_114 (by decide) ?_
                  refine k_goto (tgt := 119) hx hb dL_does_115 (by decide) ?_
                  exact sL_does_119 hlt C hr htab
            · refine k_aload_n hx hb dL_does_88 rfl ?_
              refine k_iload_n hx hb dL_does_89 rfl ?_
              refine k_iload_n hx hb dL_does_90 rfl ?_
              refine k_iload hx hb dL_does_91 ?_
              refine k_tr3 C (i := i) (MB := 1) (g := (fun x0 x1 x2 μ => gAsk μ x0 x1 x2)) (wp := w21) (Pr := (fun x0 x1 x2 => True)) (A := (fun _ => True)) (Kh := (fun t => t.2.2.1 ≤ 1 ∧ Kn (-99999) t.1 t.2.1 t.2.2.2)) (fun z0 N => mX5_ask hlt) (fun x0 x1 x2 σ μ _ h => sim_ask h) w21_n rfl zlL_28 zmX5_ask zvX5_ask ziX5 zcX5_ask (by decide +kernel) ⟨Nat.le_of_ble_eq_true rfl, Nat.le_of_ble_eq_true rfl⟩ ⟨Nat.le_of_ble_eq_true rfl, Nat.le_of_ble_eq_true rfl⟩ dL_does_93 ?_ ?_
              · rintro k ⟨a, h, hexc⟩ cd hcd hA
                obtain ⟨-, k0, x, y, -, ⟨-, rfl⟩ | ⟨-, -, -, rfl⟩ | ⟨-, -, -, -, -, rfl⟩⟩ := hexc
                · exact z_hand2 C hr htab (k := 2) [] (⟨0, 129, 130, 38⟩ : ExceptionTableEntry) [(⟨0, 129, 135, 41⟩ : ExceptionTableEntry), (⟨0, 129, 140, 43⟩ : ExceptionTableEntry)] rfl (fun z hz => absurd hz List.not_mem_nil) (by decide) (by decide) znL_38 (by decide +kernel) (len := 2) (fun H locs cells slots L q hL kk => st_w2 hx hb dL_does_130 (by decide) hL kk) zkL_40 dL_does_132 dL_does_134
                · exact z_hand2 C hr htab (k := 0) [(⟨0, 129, 130, 38⟩ : ExceptionTableEntry)] (⟨0, 129, 135, 41⟩ : ExceptionTableEntry) [(⟨0, 129, 140, 43⟩ : ExceptionTableEntry)] rfl (fun z hz => by
                    simp only [List.mem_cons, List.not_mem_nil, or_false] at hz
                    rcases hz with rfl
                    · exact ⟨by decide, "java/lang/IndexOutOfBoundsException", znL_38, by decide +kernel⟩
                    ) (by decide) (by decide) znL_41 (by decide +kernel) (len := 2) (fun H locs cells slots L q hL kk => st_w2 hx hb dL_does_135 (by decide) hL kk) zkL_40 dL_does_137 dL_does_139
                · exact z_hand2 C hr htab (k := 1) [(⟨0, 129, 130, 38⟩ : ExceptionTableEntry), (⟨0, 129, 135, 41⟩ : ExceptionTableEntry)] (⟨0, 129, 140, 43⟩ : ExceptionTableEntry) [] rfl (fun z hz => by
                    simp only [List.mem_cons, List.not_mem_nil, or_false] at hz
                    rcases hz with rfl | rfl
                    · exact ⟨by decide, "java/lang/IndexOutOfBoundsException", znL_38, by decide +kernel⟩
                    · exact ⟨by decide, "java/lang/IllegalArgumentException", znL_41, by decide +kernel⟩
                    ) (by decide) (by decide) znL_43 (by decide +kernel) (len := 2) (fun H locs cells slots L q hL kk => st_w2 hx hb dL_does_140 (by decide) hL kk) zkL_40 dL_does_142 dL_does_144
              refine k_goto (tgt := 129) hx hb dL_does_96 (by decide) ?_
              exact sL_does_129 hlt C hr htab
          · refine k_aload_n hx hb dL_does_76 rfl ?_
            refine k_tr0 C (i := i) (MB := 1) (g := (fun μ => gUndo μ)) (wp := w11) (Pr := True) (A := (fun _ => True)) (Kh := (fun t => t.2.2.1 ≤ 1 ∧ Kn (-99999) t.1 t.2.1 t.2.2.2)) (fun z0 N => mX5_undo hlt) (fun σ μ _ h => sim_undo h) w11_n rfl zlL_25 zmX5_undo zvX5_undo ziX5 zcX5_undo (by decide +kernel) ⟨Nat.le_of_ble_eq_true rfl, Nat.le_of_ble_eq_true rfl⟩ ⟨Nat.le_of_ble_eq_true rfl, Nat.le_of_ble_eq_true rfl⟩ dL_does_77 ?_ ?_
            · rintro k ⟨a, h, hexc⟩ cd hcd hA
              obtain ⟨-, -, rfl, -⟩ := hexc
              · exact z_hand2 C hr htab (k := 1) [(⟨0, 129, 130, 38⟩ : ExceptionTableEntry), (⟨0, 129, 135, 41⟩ : ExceptionTableEntry)] (⟨0, 129, 140, 43⟩ : ExceptionTableEntry) [] rfl (fun z hz => by
                  simp only [List.mem_cons, List.not_mem_nil, or_false] at hz
                  rcases hz with rfl | rfl
                  · exact ⟨by decide, "java/lang/IndexOutOfBoundsException", znL_38, by decide +kernel⟩
                  · exact ⟨by decide, "java/lang/IllegalArgumentException", znL_41, by decide +kernel⟩
                  ) (by decide) (by decide) znL_43 (by decide +kernel) (len := 2) (fun H locs cells slots L q hL kk => st_w2 hx hb dL_does_140 (by decide) hL kk) zkL_40 dL_does_142 dL_does_144
            refine k_goto (tgt := 129) hx hb dL_does_80 (by decide) ?_
            exact sL_does_129 hlt C hr htab
        · refine k_aload_n hx hb dL_does_60 rfl ?_
          refine k_iload_n hx hb dL_does_61 rfl ?_
          refine k_iload_n hx hb dL_does_62 rfl ?_
          refine k_iload hx hb dL_does_63 ?_
          refine k_tr3 C (i := i) (MB := 1) (g := (fun x0 x1 x2 μ => gMass μ x0 x1 x2)) (wp := w21) (Pr := (fun x0 x1 x2 => True)) (A := (fun _ => True)) (Kh := (fun t => t.2.2.1 ≤ 1 ∧ Kn (-99999) t.1 t.2.1 t.2.2.2)) (fun z0 N => mX5_mass hlt) (fun x0 x1 x2 σ μ _ h => sim_mass h) w21_n rfl zlL_21 zmX5_mass zvX5_mass ziX5 zcX5_mass (by decide +kernel) ⟨Nat.le_of_ble_eq_true rfl, Nat.le_of_ble_eq_true rfl⟩ ⟨Nat.le_of_ble_eq_true rfl, Nat.le_of_ble_eq_true rfl⟩ dL_does_65 ?_ ?_
          · rintro k ⟨a, h, hexc⟩ cd hcd hA
            obtain ⟨-, k0, x, y, -, ⟨-, rfl⟩ | ⟨-, -, -, rfl⟩⟩ := hexc
            · exact z_hand2 C hr htab (k := 2) [] (⟨0, 129, 130, 38⟩ : ExceptionTableEntry) [(⟨0, 129, 135, 41⟩ : ExceptionTableEntry), (⟨0, 129, 140, 43⟩ : ExceptionTableEntry)] rfl (fun z hz => absurd hz List.not_mem_nil) (by decide) (by decide) znL_38 (by decide +kernel) (len := 2) (fun H locs cells slots L q hL kk => st_w2 hx hb dL_does_130 (by decide) hL kk) zkL_40 dL_does_132 dL_does_134
            · exact z_hand2 C hr htab (k := 0) [(⟨0, 129, 130, 38⟩ : ExceptionTableEntry)] (⟨0, 129, 135, 41⟩ : ExceptionTableEntry) [(⟨0, 129, 140, 43⟩ : ExceptionTableEntry)] rfl (fun z hz => by
                simp only [List.mem_cons, List.not_mem_nil, or_false] at hz
                rcases hz with rfl
                · exact ⟨by decide, "java/lang/IndexOutOfBoundsException", znL_38, by decide +kernel⟩
                ) (by decide) (by decide) znL_41 (by decide +kernel) (len := 2) (fun H locs cells slots L q hL kk => st_w2 hx hb dL_does_135 (by decide) hL kk) zkL_40 dL_does_137 dL_does_139
          refine k_goto (tgt := 129) hx hb dL_does_68 (by decide) ?_
          exact sL_does_129 hlt C hr htab
      · refine k_aload_n hx hb dL_does_38 rfl ?_
        refine k_iload_n hx hb dL_does_39 rfl ?_
        refine k_iload_n hx hb dL_does_40 rfl ?_
        refine k_tr2 C (i := i) (MB := 1) (g := (fun x0 x1 μ => gUntag μ x0 x1)) (wp := w21) (Pr := (fun x0 x1 => True)) (A := (fun _ => True)) (Kh := (fun t => t.2.2.1 ≤ 1 ∧ Kn (-99999) t.1 t.2.1 t.2.2.2)) (fun z0 N => mX5_untag hlt) (fun x0 x1 σ μ _ h => sim_untag h) w21_n rfl zlL_18 zmX5_untag zvX5_untag ziX5 zcX5_untag (by decide +kernel) ⟨Nat.le_of_ble_eq_true rfl, Nat.le_of_ble_eq_true rfl⟩ ⟨Nat.le_of_ble_eq_true rfl, Nat.le_of_ble_eq_true rfl⟩ dL_does_41 ?_ ?_
        · rintro k ⟨a, h, hexc⟩ cd hcd hA
          obtain ⟨-, x, y, -, rfl, -⟩ := hexc
          · exact z_hand2 C hr htab (k := 2) [] (⟨0, 129, 130, 38⟩ : ExceptionTableEntry) [(⟨0, 129, 135, 41⟩ : ExceptionTableEntry), (⟨0, 129, 140, 43⟩ : ExceptionTableEntry)] rfl (fun z hz => absurd hz List.not_mem_nil) (by decide) (by decide) znL_38 (by decide +kernel) (len := 2) (fun H locs cells slots L q hL kk => st_w2 hx hb dL_does_130 (by decide) hL kk) zkL_40 dL_does_132 dL_does_134
        refine k_if_eq (tgt := 51) hx hb dL_does_44 (by decide) ?_ ?_
        · refine k_iconst hx hb dL_does_51 (by decide) ?_
          refine k_goto (tgt := 129) hx hb dL_does_52 (by decide) ?_
          exact sL_does_129 hlt C hr htab
        · refine k_iconst hx hb dL_does_47 (by decide) ?_
          refine k_goto (tgt := 129) hx hb dL_does_48 (by decide) ?_
          exact sL_does_129 hlt C hr htab
    · refine k_aload_n hx hb dL_does_16 rfl ?_
      refine k_iload_n hx hb dL_does_17 rfl ?_
      refine k_iload_n hx hb dL_does_18 rfl ?_
      refine k_tr2 C (i := i) (MB := 1) (g := (fun x0 x1 μ => gTag μ x0 x1)) (wp := w21) (Pr := (fun x0 x1 => True)) (A := (fun _ => True)) (Kh := (fun t => t.2.2.1 ≤ 1 ∧ Kn (-99999) t.1 t.2.1 t.2.2.2)) (fun z0 N => mX5_tag hlt) (fun x0 x1 σ μ _ h => sim_tag h) w21_n rfl zlL_14 zmX5_tag zvX5_tag ziX5 zcX5_tag (by decide +kernel) ⟨Nat.le_of_ble_eq_true rfl, Nat.le_of_ble_eq_true rfl⟩ ⟨Nat.le_of_ble_eq_true rfl, Nat.le_of_ble_eq_true rfl⟩ dL_does_19 ?_ ?_
      · rintro k ⟨a, h, hexc⟩ cd hcd hA
        obtain ⟨-, x, y, -, rfl, -⟩ := hexc
        · exact z_hand2 C hr htab (k := 2) [] (⟨0, 129, 130, 38⟩ : ExceptionTableEntry) [(⟨0, 129, 135, 41⟩ : ExceptionTableEntry), (⟨0, 129, 140, 43⟩ : ExceptionTableEntry)] rfl (fun z hz => absurd hz List.not_mem_nil) (by decide) (by decide) znL_38 (by decide +kernel) (len := 2) (fun H locs cells slots L q hL kk => st_w2 hx hb dL_does_130 (by decide) hL kk) zkL_40 dL_does_132 dL_does_134
      refine k_if_eq (tgt := 29) hx hb dL_does_22 (by decide) ?_ ?_
      · refine k_iconst hx hb dL_does_29 (by decide) ?_
        refine k_goto (tgt := 129) hx hb dL_does_30 (by decide) ?_
        exact sL_does_129 hlt C hr htab
      · refine k_iconst hx hb dL_does_25 (by decide) ?_
        refine k_goto (tgt := 129) hx hb dL_does_26 (by decide) ?_
        exact sL_does_129 hlt C hr htab
  · refine k_aload_n hx hb dL_does_4 rfl ?_
    refine k_tr0 C (i := i) (MB := 1) (g := (fun μ => gAddThing μ)) (wp := w11) (Pr := True) (A := (fun _ => True)) (Kh := (fun t => t.2.2.1 ≤ 1 ∧ Kn (-99999) t.1 t.2.1 t.2.2.2)) (fun z0 N => mX5_addThing hlt) (fun σ μ _ h => sim_addThing h) w11_n rfl zlL_8 zmX5_addThing zvX5_addThing ziX5 zcX5_addThing (by decide +kernel) ⟨Nat.le_of_ble_eq_true rfl, Nat.le_of_ble_eq_true rfl⟩ ⟨Nat.le_of_ble_eq_true rfl, Nat.le_of_ble_eq_true rfl⟩ dL_does_5 ?_ ?_
    · rintro k ⟨a, h, hexc⟩ cd hcd hA
      obtain ⟨-, -, rfl, -⟩ := hexc
      · exact z_hand2 C hr htab (k := 1) [(⟨0, 129, 130, 38⟩ : ExceptionTableEntry), (⟨0, 129, 135, 41⟩ : ExceptionTableEntry)] (⟨0, 129, 140, 43⟩ : ExceptionTableEntry) [] rfl (fun z hz => by
          simp only [List.mem_cons, List.not_mem_nil, or_false] at hz
          rcases hz with rfl | rfl
          · exact ⟨by decide, "java/lang/IndexOutOfBoundsException", znL_38, by decide +kernel⟩
          · exact ⟨by decide, "java/lang/IllegalArgumentException", znL_41, by decide +kernel⟩
          ) (by decide) (by decide) znL_43 (by decide +kernel) (len := 2) (fun H locs cells slots L q hL kk => st_w2 hx hb dL_does_140 (by decide) hL kk) zkL_40 dL_does_142 dL_does_144
    refine k_goto (tgt := 129) hx hb dL_does_8 (by decide) ?_
    exact sL_does_129 hlt C hr htab
set_option maxRecDepth 20000 in
theorem uL_does {l : Launch} {z0 b : Nat} {D : va_G} {cA : Nat → ClassId} (hlt : l.stackTraces = false) (spec : ∀ (a : List Value) (μ ν : zMS) (Kn : QK), zok 5 a = true → tL_does a μ ν Kn → ∃ i : Bool, bL_does_0 i Kn (zE 6 a) [] (μ, ν, 0, 0)) : SemL l z0 b D cA yL_does (Cond.codeWith yL_does cL_does 6 (some .int) [(0, 129, 130, 38), (0, 129, 135, 41), (0, 129, 140, 43)]) 8 158 5 1 tL_does := by
  refine semLW_of hlt (by decide +kernel) (by decide) (fun p e s m args below meth c a μ ν Kn hok hN C hr htab => ?_)
  obtain ⟨i, hi⟩ := spec a μ ν Kn hok hN
  exact sL_does_0 (i := i) hlt C hr htab _ _ _ (hi)
