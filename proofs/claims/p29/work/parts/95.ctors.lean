theorem zoi : Cond.instanceMethod Lib.objectInit ∈ zWS := zws_mem 39 (by decide +kernel) rfl
theorem zoc : Cond.code Lib.objectInit ⟨#[0xb1]⟩ 1 none ∈ zWS := zws_mem 40 (by decide +kernel) rfl
theorem za_int : Cond.arrayClass .int ∈ zWS := zws_mem 67 (by decide +kernel) rfl
theorem za_char : Cond.arrayClass .char ∈ zWS := zws_mem 66 (by decide +kernel) rfl
theorem zcX1_init : Cond.code yX1_init cX1_init 1 none ∈ zWS := zws_mem 45 (by decide +kernel) rfl
theorem zmX1_init : Cond.instanceMethod yX1_init ∈ zWS := zws_mem 44 (by decide +kernel) rfl
theorem zlX1_3 : Cond.methodLink RX1 3 Lib.objectInit ∈ zWS := zws_mem 46 (by decide +kernel) rfl
theorem zcX4_init : Cond.code yX4_init cX4_init 1 none ∈ zWS := zws_mem 72 (by decide +kernel) rfl
theorem zmX4_init : Cond.instanceMethod yX4_init ∈ zWS := zws_mem 71 (by decide +kernel) rfl
theorem zlX4_3 : Cond.methodLink RX4 3 Lib.objectInit ∈ zWS := zws_mem 73 (by decide +kernel) rfl
theorem zcX2_init : Cond.code yX2_init cX2_init 1 none ∈ zWS := zws_mem 97 (by decide +kernel) rfl
theorem zmX2_init : Cond.instanceMethod yX2_init ∈ zWS := zws_mem 96 (by decide +kernel) rfl
theorem zlX2_3 : Cond.methodLink RX2 3 Lib.objectInit ∈ zWS := zws_mem 98 (by decide +kernel) rfl
theorem zcX0_init : Cond.code yX0_init cX0_init 1 none ∈ zWS := zws_mem 127 (by decide +kernel) rfl
theorem zmX0_init : Cond.instanceMethod yX0_init ∈ zWS := zws_mem 126 (by decide +kernel) rfl
theorem zlX0_3 : Cond.methodLink RX0 3 Lib.objectInit ∈ zWS := zws_mem 128 (by decide +kernel) rfl
theorem zcX3_init : Cond.code yX3_init cX3_init 1 none ∈ zWS := zws_mem 161 (by decide +kernel) rfl
theorem zmX3_init : Cond.instanceMethod yX3_init ∈ zWS := zws_mem 160 (by decide +kernel) rfl
theorem zlX3_3 : Cond.methodLink RX3 3 Lib.objectInit ∈ zWS := zws_mem 162 (by decide +kernel) rfl
theorem zcX5_init : Cond.code yX5_init cX5_init 1 none ∈ zWS := zws_mem 37 (by decide +kernel) rfl
theorem zmX5_init : Cond.instanceMethod yX5_init ∈ zWS := zws_mem 36 (by decide +kernel) rfl
theorem zlX5_1 : Cond.methodLink RX5 1 Lib.objectInit ∈ zWS := zws_mem 38 (by decide +kernel) rfl
theorem znX5_7 : Cond.classLink RX5 7 RX1 ∈ zWS := zws_mem 41 (by decide +kernel) rfl
theorem zbX1 : Cond.instantiable RX1 5 ∈ zWS := zws_mem 42 (by decide +kernel) rfl
theorem znX5_16 : Cond.classLink RX5 16 RX4 ∈ zWS := zws_mem 68 (by decide +kernel) rfl
theorem zbX4 : Cond.instantiable RX4 5 ∈ zWS := zws_mem 69 (by decide +kernel) rfl
theorem znX5_26 : Cond.classLink RX5 26 RX2 ∈ zWS := zws_mem 93 (by decide +kernel) rfl
theorem zbX2 : Cond.instantiable RX2 7 ∈ zWS := zws_mem 94 (by decide +kernel) rfl
theorem znX5_33 : Cond.classLink RX5 33 RX0 ∈ zWS := zws_mem 123 (by decide +kernel) rfl
theorem zbX0 : Cond.instantiable RX0 7 ∈ zWS := zws_mem 124 (by decide +kernel) rfl
theorem znX5_40 : Cond.classLink RX5 40 RX3 ∈ zWS := zws_mem 157 (by decide +kernel) rfl
theorem zbX3 : Cond.instantiable RX3 1 ∈ zWS := zws_mem 158 (by decide +kernel) rfl
theorem dfsX0 : ∀ j, j < 7 → defaultValue (tyX0 j) = vp_V [.null, .null, .null, .null, .int 0, .int 0, .int 0] j := by
  intro j hj
  match j, hj with
  | 0, _ => rfl
  | 1, _ => rfl
  | 2, _ => rfl
  | 3, _ => rfl
  | 4, _ => rfl
  | 5, _ => rfl
  | 6, _ => rfl
  | j + 7, h => exact absurd h (by omega)
theorem dfsX1 : ∀ j, j < 5 → defaultValue (tyX1 j) = vp_V [.null, .null, .null, .int 0, .int 0] j := by
  intro j hj
  match j, hj with
  | 0, _ => rfl
  | 1, _ => rfl
  | 2, _ => rfl
  | 3, _ => rfl
  | 4, _ => rfl
  | j + 5, h => exact absurd h (by omega)
theorem dfsX2 : ∀ j, j < 7 → defaultValue (tyX2 j) = vp_V [.null, .null, .null, .null, .null, .null, .int 0] j := by
  intro j hj
  match j, hj with
  | 0, _ => rfl
  | 1, _ => rfl
  | 2, _ => rfl
  | 3, _ => rfl
  | 4, _ => rfl
  | 5, _ => rfl
  | 6, _ => rfl
  | j + 7, h => exact absurd h (by omega)
theorem dfsX3 : ∀ j, j < 1 → defaultValue (tyX3 j) = vp_V [.null] j := by
  intro j hj
  match j, hj with
  | 0, _ => rfl
  | j + 1, h => exact absurd h (by omega)
theorem dfsX4 : ∀ j, j < 5 → defaultValue (tyX4 j) = vp_V [.null, .null, .null, .null, .int 0] j := by
  intro j hj
  match j, hj with
  | 0, _ => rfl
  | 1, _ => rfl
  | 2, _ => rfl
  | 3, _ => rfl
  | 4, _ => rfl
  | j + 5, h => exact absurd h (by omega)
theorem dfsX5 : ∀ j, j < 6 → defaultValue (tyX5 j) = vp_V [.null, .null, .null, .null, .null, .null] j := by
  intro j hj
  match j, hj with
  | 0, _ => rfl
  | 1, _ => rfl
  | 2, _ => rfl
  | 3, _ => rfl
  | 4, _ => rfl
  | 5, _ => rfl
  | j + 6, h => exact absurd h (by omega)
theorem zfs {z0 b : Nat} {fs : List Value} (h : fs.all (fun v => match v with
  | .int _ => true
  | .null => true
  | _ => false) = true) : ∀ v ∈ fs, zc z0 b v = v := by
  intro v hv
  have := List.all_eq_true.mp h v hv
  cases v <;> first | rfl | cases this
def bX1i : ZK ZC := o_aload 0 (o_oin (o_aload 0 (o_ic (192) (o_newa 3 224 1 1 1 192 (192, .inl (fun _ => 0)) (o_putr 1 1 0 (o_aload 0 (o_ic (24) (o_newa 3 224 1 1 0 24 (24, .inl (fun _ => 0)) (o_putr 1 1 1 (o_aload 0 (o_ic (8) (o_newa 3 224 1 1 1 8 (8, .inl (fun _ => 0)) (o_putr 1 1 2 (o_vretC 3 224 (cN zT0.1)))))))))))))))
set_option maxRecDepth 20000 in
theorem sX1i {l : Launch} {z0 b : Nat} {D : va_G} {cA : Nat → ClassId} {p : Program} {e : Env} {s : State} {m : MethodId} {args : Array Value} {below : List Frame} {meth : Method} {c : Code} {h0 : ZH} {XC : String → State → State → Prop} (hlt : l.stackTraces = false) (C : zCx p l { frames := 1, cells := 3, slots := 224, locals := 18 } s m args meth c cX1_init 1 RX1 z0 D cA 0) (hr : meth.sig.returnType = none) (hin2 : meth.name = "<init>") : Snd p l e { frames := 1, cells := 3, slots := 224, locals := 18 } s m args below meth c 1 z0 b (iC z0 b 1 1 h0 D cA s) (cC 1) (vx_MQ below (zQn z0 b (1 + 1 + 3) D cA (fun v g => v = none ∧ g = zB 1 (cN zT0.1) h0)) XC args s 3 224 (fun q => z0 ≤ q)) 0 bX1i := by
  obtain ⟨hx, hb, hml, hown, hts, -⟩ := id C
  unfold bX1i
  refine k_aload_n hx hb dX1_init_0 rfl ?_
  refine k_oin C zlX1_3 zoi zoc ⟨Nat.le_of_ble_eq_true rfl, Nat.le_of_ble_eq_true rfl⟩ dX1_init_1 ?_
  refine k_aload_n hx hb dX1_init_4 rfl ?_
  refine k_sipush hx hb dX1_init_5 (by decide) ?_
  refine k_newa C (aty := .char) (ty := .char) (ti := 1) (n := 192) (a := (192, .inl (fun _ => 0))) rfl za_char rfl (fun _ => rfl) (fun _ _ h => h) (by decide) (Nat.le_of_ble_eq_true rfl) dX1_init_8 ?_
  refine k_putr C hin2 (ci := 1) (k := 0) (Tf := TX1) (Nf := 5) (Cn := RX1) tyX1 tyX1_ok nmX1 rfl zinX1 (by decide) rfl rfl rfl (fty := tyX1 0) (tyX1_ok 0 (by decide)) (fun _ => rfl) (fun _ => rfl) zfX1_9 dX1_init_10 ?_
  refine k_aload_n hx hb dX1_init_13 rfl ?_
  refine k_bipush hx hb dX1_init_14 (by decide) ?_
  refine k_newa C (aty := .int) (ty := .int) (ti := 0) (n := 24) (a := (24, .inl (fun _ => 0))) rfl za_int rfl (fun _ => rfl) (fun _ _ h => h) (by decide) (Nat.le_of_ble_eq_true rfl) dX1_init_16 ?_
  refine k_putr C hin2 (ci := 1) (k := 1) (Tf := TX1) (Nf := 5) (Cn := RX1) tyX1 tyX1_ok nmX1 rfl zinX1 (by decide) rfl rfl rfl (fty := tyX1 1) (tyX1_ok 1 (by decide)) (fun _ => rfl) (fun _ => rfl) zfX1_15 dX1_init_18 ?_
  refine k_aload_n hx hb dX1_init_21 rfl ?_
  refine k_bipush hx hb dX1_init_22 (by decide) ?_
  refine k_newa C (aty := .char) (ty := .char) (ti := 1) (n := 8) (a := (8, .inl (fun _ => 0))) rfl za_char rfl (fun _ => rfl) (fun _ _ h => h) (by decide) (Nat.le_of_ble_eq_true rfl) dX1_init_24 ?_
  refine k_putr C hin2 (ci := 1) (k := 2) (Tf := TX1) (Nf := 5) (Cn := RX1) tyX1 tyX1_ok nmX1 rfl zinX1 (by decide) rfl rfl rfl (fty := tyX1 2) (tyX1_ok 2 (by decide)) (fun _ => rfl) (fun _ => rfl) zfX1_19 dX1_init_26 ?_
  exact k_vretC C hr dX1_init_29
set_option maxRecDepth 20000 in
set_option maxHeartbeats 4000000 in
theorem vX1i {l : Launch} {z0 b : Nat} {D : va_G} {cA : Nat → ClassId} (hlt : l.stackTraces = false) : SemC l z0 b D cA yX1_init cX1_init 1 1 18 1 3 224 (.inr (1, [.null, .null, .null, .int 0, .int 0])) (cN zT0.1) := by
  refine semC_of hlt (by decide +kernel) (by decide) rfl (fun p e s m args below meth c h0 C hr hin2 => sX1i hlt C hr hin2 _ _ _ ?_)
  simp only [bX1i, o_aload, o_oin, o_ic, o_newa, o_putr, o_vretC, o_new, o_dup, o_ini, zE, zsb, List.map_cons, List.map_nil, List.length_cons, List.length_nil, List.replicate, List.cons_append, List.nil_append, List.append_nil, List.getElem?_cons_zero, List.getElem?_cons_succ, List.set_cons_zero, List.set_cons_succ, Nat.reduceAdd, Nat.reduceSub, Nat.reduceLT, Nat.reduceLeDiff, Nat.zero_add, Nat.add_zero, true_and, and_true, Nat.le_refl]
  refine ⟨rfl, rfl, rfl, ?_⟩
  rfl
def bX4i : ZK ZC := o_aload 0 (o_oin (o_aload 0 (o_ic (24) (o_newa 4 96 5 1 0 24 (24, .inl (fun _ => 0)) (o_putr 5 4 0 (o_aload 0 (o_ic (24) (o_newa 4 96 5 1 0 24 (24, .inl (fun _ => 0)) (o_putr 5 4 1 (o_aload 0 (o_ic (24) (o_newa 4 96 5 1 0 24 (24, .inl (fun _ => 0)) (o_putr 5 4 2 (o_aload 0 (o_ic (24) (o_newa 4 96 5 1 0 24 (24, .inl (fun _ => 0)) (o_putr 5 4 3 (o_vretC 4 96 (cR 5 zT0.2.1)))))))))))))))))))
set_option maxRecDepth 20000 in
theorem sX4i {l : Launch} {z0 b : Nat} {D : va_G} {cA : Nat → ClassId} {p : Program} {e : Env} {s : State} {m : MethodId} {args : Array Value} {below : List Frame} {meth : Method} {c : Code} {h0 : ZH} {XC : String → State → State → Prop} (hlt : l.stackTraces = false) (C : zCx p l { frames := 1, cells := 4, slots := 96, locals := 18 } s m args meth c cX4_init 1 RX4 z0 D cA 0) (hr : meth.sig.returnType = none) (hin2 : meth.name = "<init>") : Snd p l e { frames := 1, cells := 4, slots := 96, locals := 18 } s m args below meth c 1 z0 b (iC z0 b 5 1 h0 D cA s) (cC 1) (vx_MQ below (zQn z0 b (5 + 1 + 4) D cA (fun v g => v = none ∧ g = zB 5 (cR 5 zT0.2.1) h0)) XC args s 4 96 (fun q => z0 ≤ q)) 0 bX4i := by
  obtain ⟨hx, hb, hml, hown, hts, -⟩ := id C
  unfold bX4i
  refine k_aload_n hx hb dX4_init_0 rfl ?_
  refine k_oin C zlX4_3 zoi zoc ⟨Nat.le_of_ble_eq_true rfl, Nat.le_of_ble_eq_true rfl⟩ dX4_init_1 ?_
  refine k_aload_n hx hb dX4_init_4 rfl ?_
  refine k_bipush hx hb dX4_init_5 (by decide) ?_
  refine k_newa C (aty := .int) (ty := .int) (ti := 0) (n := 24) (a := (24, .inl (fun _ => 0))) rfl za_int rfl (fun _ => rfl) (fun _ _ h => h) (by decide) (Nat.le_of_ble_eq_true rfl) dX4_init_7 ?_
  refine k_putr C hin2 (ci := 4) (k := 0) (Tf := TX4) (Nf := 5) (Cn := RX4) tyX4 tyX4_ok nmX4 rfl zinX4 (by decide) rfl rfl rfl (fty := tyX4 0) (tyX4_ok 0 (by decide)) (fun _ => rfl) (fun _ => rfl) zfX4_9 dX4_init_9 ?_
  refine k_aload_n hx hb dX4_init_12 rfl ?_
  refine k_bipush hx hb dX4_init_13 (by decide) ?_
  refine k_newa C (aty := .int) (ty := .int) (ti := 0) (n := 24) (a := (24, .inl (fun _ => 0))) rfl za_int rfl (fun _ => rfl) (fun _ _ h => h) (by decide) (Nat.le_of_ble_eq_true rfl) dX4_init_15 ?_
  refine k_putr C hin2 (ci := 4) (k := 1) (Tf := TX4) (Nf := 5) (Cn := RX4) tyX4 tyX4_ok nmX4 rfl zinX4 (by decide) rfl rfl rfl (fty := tyX4 1) (tyX4_ok 1 (by decide)) (fun _ => rfl) (fun _ => rfl) zfX4_15 dX4_init_17 ?_
  refine k_aload_n hx hb dX4_init_20 rfl ?_
  refine k_bipush hx hb dX4_init_21 (by decide) ?_
  refine k_newa C (aty := .int) (ty := .int) (ti := 0) (n := 24) (a := (24, .inl (fun _ => 0))) rfl za_int rfl (fun _ => rfl) (fun _ _ h => h) (by decide) (Nat.le_of_ble_eq_true rfl) dX4_init_23 ?_
  refine k_putr C hin2 (ci := 4) (k := 2) (Tf := TX4) (Nf := 5) (Cn := RX4) tyX4 tyX4_ok nmX4 rfl zinX4 (by decide) rfl rfl rfl (fty := tyX4 2) (tyX4_ok 2 (by decide)) (fun _ => rfl) (fun _ => rfl) zfX4_18 dX4_init_25 ?_
  refine k_aload_n hx hb dX4_init_28 rfl ?_
  refine k_bipush hx hb dX4_init_29 (by decide) ?_
  refine k_newa C (aty := .int) (ty := .int) (ti := 0) (n := 24) (a := (24, .inl (fun _ => 0))) rfl za_int rfl (fun _ => rfl) (fun _ _ h => h) (by decide) (Nat.le_of_ble_eq_true rfl) dX4_init_31 ?_
  refine k_putr C hin2 (ci := 4) (k := 3) (Tf := TX4) (Nf := 5) (Cn := RX4) tyX4 tyX4_ok nmX4 rfl zinX4 (by decide) rfl rfl rfl (fty := tyX4 3) (tyX4_ok 3 (by decide)) (fun _ => rfl) (fun _ => rfl) zfX4_21 dX4_init_33 ?_
  exact k_vretC C hr dX4_init_36
set_option maxRecDepth 20000 in
set_option maxHeartbeats 4000000 in
theorem vX4i {l : Launch} {z0 b : Nat} {D : va_G} {cA : Nat → ClassId} (hlt : l.stackTraces = false) : SemC l z0 b D cA yX4_init cX4_init 1 1 18 5 4 96 (.inr (4, [.null, .null, .null, .null, .int 0])) (cR 5 zT0.2.1) := by
  refine semC_of hlt (by decide +kernel) (by decide) rfl (fun p e s m args below meth c h0 C hr hin2 => sX4i hlt C hr hin2 _ _ _ ?_)
  simp only [bX4i, o_aload, o_oin, o_ic, o_newa, o_putr, o_vretC, o_new, o_dup, o_ini, zE, zsb, List.map_cons, List.map_nil, List.length_cons, List.length_nil, List.replicate, List.cons_append, List.nil_append, List.append_nil, List.getElem?_cons_zero, List.getElem?_cons_succ, List.set_cons_zero, List.set_cons_succ, Nat.reduceAdd, Nat.reduceSub, Nat.reduceLT, Nat.reduceLeDiff, Nat.zero_add, Nat.add_zero, true_and, and_true, Nat.le_refl]
  refine ⟨rfl, rfl, rfl, rfl, ?_⟩
  rfl
def bX4j : ZK ZC := o_aload 0 (o_oin (o_aload 0 (o_ic (24) (o_newa 4 96 10 1 0 24 (24, .inl (fun _ => 0)) (o_putr 10 4 0 (o_aload 0 (o_ic (24) (o_newa 4 96 10 1 0 24 (24, .inl (fun _ => 0)) (o_putr 10 4 1 (o_aload 0 (o_ic (24) (o_newa 4 96 10 1 0 24 (24, .inl (fun _ => 0)) (o_putr 10 4 2 (o_aload 0 (o_ic (24) (o_newa 4 96 10 1 0 24 (24, .inl (fun _ => 0)) (o_putr 10 4 3 (o_vretC 4 96 (cR 10 zT0.2.2.1)))))))))))))))))))
set_option maxRecDepth 20000 in
theorem sX4j {l : Launch} {z0 b : Nat} {D : va_G} {cA : Nat → ClassId} {p : Program} {e : Env} {s : State} {m : MethodId} {args : Array Value} {below : List Frame} {meth : Method} {c : Code} {h0 : ZH} {XC : String → State → State → Prop} (hlt : l.stackTraces = false) (C : zCx p l { frames := 1, cells := 4, slots := 96, locals := 18 } s m args meth c cX4_init 1 RX4 z0 D cA 0) (hr : meth.sig.returnType = none) (hin2 : meth.name = "<init>") : Snd p l e { frames := 1, cells := 4, slots := 96, locals := 18 } s m args below meth c 1 z0 b (iC z0 b 10 1 h0 D cA s) (cC 1) (vx_MQ below (zQn z0 b (10 + 1 + 4) D cA (fun v g => v = none ∧ g = zB 10 (cR 10 zT0.2.2.1) h0)) XC args s 4 96 (fun q => z0 ≤ q)) 0 bX4j := by
  obtain ⟨hx, hb, hml, hown, hts, -⟩ := id C
  unfold bX4j
  refine k_aload_n hx hb dX4_init_0 rfl ?_
  refine k_oin C zlX4_3 zoi zoc ⟨Nat.le_of_ble_eq_true rfl, Nat.le_of_ble_eq_true rfl⟩ dX4_init_1 ?_
  refine k_aload_n hx hb dX4_init_4 rfl ?_
  refine k_bipush hx hb dX4_init_5 (by decide) ?_
  refine k_newa C (aty := .int) (ty := .int) (ti := 0) (n := 24) (a := (24, .inl (fun _ => 0))) rfl za_int rfl (fun _ => rfl) (fun _ _ h => h) (by decide) (Nat.le_of_ble_eq_true rfl) dX4_init_7 ?_
  refine k_putr C hin2 (ci := 4) (k := 0) (Tf := TX4) (Nf := 5) (Cn := RX4) tyX4 tyX4_ok nmX4 rfl zinX4 (by decide) rfl rfl rfl (fty := tyX4 0) (tyX4_ok 0 (by decide)) (fun _ => rfl) (fun _ => rfl) zfX4_9 dX4_init_9 ?_
  refine k_aload_n hx hb dX4_init_12 rfl ?_
  refine k_bipush hx hb dX4_init_13 (by decide) ?_
  refine k_newa C (aty := .int) (ty := .int) (ti := 0) (n := 24) (a := (24, .inl (fun _ => 0))) rfl za_int rfl (fun _ => rfl) (fun _ _ h => h) (by decide) (Nat.le_of_ble_eq_true rfl) dX4_init_15 ?_
  refine k_putr C hin2 (ci := 4) (k := 1) (Tf := TX4) (Nf := 5) (Cn := RX4) tyX4 tyX4_ok nmX4 rfl zinX4 (by decide) rfl rfl rfl (fty := tyX4 1) (tyX4_ok 1 (by decide)) (fun _ => rfl) (fun _ => rfl) zfX4_15 dX4_init_17 ?_
  refine k_aload_n hx hb dX4_init_20 rfl ?_
  refine k_bipush hx hb dX4_init_21 (by decide) ?_
  refine k_newa C (aty := .int) (ty := .int) (ti := 0) (n := 24) (a := (24, .inl (fun _ => 0))) rfl za_int rfl (fun _ => rfl) (fun _ _ h => h) (by decide) (Nat.le_of_ble_eq_true rfl) dX4_init_23 ?_
  refine k_putr C hin2 (ci := 4) (k := 2) (Tf := TX4) (Nf := 5) (Cn := RX4) tyX4 tyX4_ok nmX4 rfl zinX4 (by decide) rfl rfl rfl (fty := tyX4 2) (tyX4_ok 2 (by decide)) (fun _ => rfl) (fun _ => rfl) zfX4_18 dX4_init_25 ?_
  refine k_aload_n hx hb dX4_init_28 rfl ?_
  refine k_bipush hx hb dX4_init_29 (by decide) ?_
  refine k_newa C (aty := .int) (ty := .int) (ti := 0) (n := 24) (a := (24, .inl (fun _ => 0))) rfl za_int rfl (fun _ => rfl) (fun _ _ h => h) (by decide) (Nat.le_of_ble_eq_true rfl) dX4_init_31 ?_
  refine k_putr C hin2 (ci := 4) (k := 3) (Tf := TX4) (Nf := 5) (Cn := RX4) tyX4 tyX4_ok nmX4 rfl zinX4 (by decide) rfl rfl rfl (fty := tyX4 3) (tyX4_ok 3 (by decide)) (fun _ => rfl) (fun _ => rfl) zfX4_21 dX4_init_33 ?_
  exact k_vretC C hr dX4_init_36
set_option maxRecDepth 20000 in
set_option maxHeartbeats 4000000 in
theorem vX4j {l : Launch} {z0 b : Nat} {D : va_G} {cA : Nat → ClassId} (hlt : l.stackTraces = false) : SemC l z0 b D cA yX4_init cX4_init 1 1 18 10 4 96 (.inr (4, [.null, .null, .null, .null, .int 0])) (cR 10 zT0.2.2.1) := by
  refine semC_of hlt (by decide +kernel) (by decide) rfl (fun p e s m args below meth c h0 C hr hin2 => sX4j hlt C hr hin2 _ _ _ ?_)
  simp only [bX4j, o_aload, o_oin, o_ic, o_newa, o_putr, o_vretC, o_new, o_dup, o_ini, zE, zsb, List.map_cons, List.map_nil, List.length_cons, List.length_nil, List.replicate, List.cons_append, List.nil_append, List.append_nil, List.getElem?_cons_zero, List.getElem?_cons_succ, List.set_cons_zero, List.set_cons_succ, Nat.reduceAdd, Nat.reduceSub, Nat.reduceLT, Nat.reduceLeDiff, Nat.zero_add, Nat.add_zero, true_and, and_true, Nat.le_refl]
  refine ⟨rfl, rfl, rfl, rfl, ?_⟩
  rfl
def bX2i : ZK ZC := o_aload 0 (o_oin (o_aload 0 (o_ic (40) (o_newa 6 240 15 1 0 40 (40, .inl (fun _ => 0)) (o_putr 15 2 0 (o_aload 0 (o_ic (40) (o_newa 6 240 15 1 0 40 (40, .inl (fun _ => 0)) (o_putr 15 2 1 (o_aload 0 (o_ic (40) (o_newa 6 240 15 1 0 40 (40, .inl (fun _ => 0)) (o_putr 15 2 2 (o_aload 0 (o_ic (40) (o_newa 6 240 15 1 0 40 (40, .inl (fun _ => 0)) (o_putr 15 2 3 (o_aload 0 (o_ic (40) (o_newa 6 240 15 1 0 40 (40, .inl (fun _ => 0)) (o_putr 15 2 4 (o_aload 0 (o_ic (40) (o_newa 6 240 15 1 0 40 (40, .inl (fun _ => 0)) (o_putr 15 2 5 (o_vretC 6 240 (cQ zT0.2.2.2.1)))))))))))))))))))))))))))
set_option maxRecDepth 20000 in
theorem sX2i {l : Launch} {z0 b : Nat} {D : va_G} {cA : Nat → ClassId} {p : Program} {e : Env} {s : State} {m : MethodId} {args : Array Value} {below : List Frame} {meth : Method} {c : Code} {h0 : ZH} {XC : String → State → State → Prop} (hlt : l.stackTraces = false) (C : zCx p l { frames := 1, cells := 6, slots := 240, locals := 18 } s m args meth c cX2_init 1 RX2 z0 D cA 0) (hr : meth.sig.returnType = none) (hin2 : meth.name = "<init>") : Snd p l e { frames := 1, cells := 6, slots := 240, locals := 18 } s m args below meth c 1 z0 b (iC z0 b 15 1 h0 D cA s) (cC 1) (vx_MQ below (zQn z0 b (15 + 1 + 6) D cA (fun v g => v = none ∧ g = zB 15 (cQ zT0.2.2.2.1) h0)) XC args s 6 240 (fun q => z0 ≤ q)) 0 bX2i := by
  obtain ⟨hx, hb, hml, hown, hts, -⟩ := id C
  unfold bX2i
  refine k_aload_n hx hb dX2_init_0 rfl ?_
  refine k_oin C zlX2_3 zoi zoc ⟨Nat.le_of_ble_eq_true rfl, Nat.le_of_ble_eq_true rfl⟩ dX2_init_1 ?_
  refine k_aload_n hx hb dX2_init_4 rfl ?_
  refine k_bipush hx hb dX2_init_5 (by decide) ?_
  refine k_newa C (aty := .int) (ty := .int) (ti := 0) (n := 40) (a := (40, .inl (fun _ => 0))) rfl za_int rfl (fun _ => rfl) (fun _ _ h => h) (by decide) (Nat.le_of_ble_eq_true rfl) dX2_init_7 ?_
  refine k_putr C hin2 (ci := 2) (k := 0) (Tf := TX2) (Nf := 7) (Cn := RX2) tyX2 tyX2_ok nmX2 rfl zinX2 (by decide) rfl rfl rfl (fty := tyX2 0) (tyX2_ok 0 (by decide)) (fun _ => rfl) (fun _ => rfl) zfX2_9 dX2_init_9 ?_
  refine k_aload_n hx hb dX2_init_12 rfl ?_
  refine k_bipush hx hb dX2_init_13 (by decide) ?_
  refine k_newa C (aty := .int) (ty := .int) (ti := 0) (n := 40) (a := (40, .inl (fun _ => 0))) rfl za_int rfl (fun _ => rfl) (fun _ _ h => h) (by decide) (Nat.le_of_ble_eq_true rfl) dX2_init_15 ?_
  refine k_putr C hin2 (ci := 2) (k := 1) (Tf := TX2) (Nf := 7) (Cn := RX2) tyX2 tyX2_ok nmX2 rfl zinX2 (by decide) rfl rfl rfl (fty := tyX2 1) (tyX2_ok 1 (by decide)) (fun _ => rfl) (fun _ => rfl) zfX2_15 dX2_init_17 ?_
  refine k_aload_n hx hb dX2_init_20 rfl ?_
  refine k_bipush hx hb dX2_init_21 (by decide) ?_
  refine k_newa C (aty := .int) (ty := .int) (ti := 0) (n := 40) (a := (40, .inl (fun _ => 0))) rfl za_int rfl (fun _ => rfl) (fun _ _ h => h) (by decide) (Nat.le_of_ble_eq_true rfl) dX2_init_23 ?_
  refine k_putr C hin2 (ci := 2) (k := 2) (Tf := TX2) (Nf := 7) (Cn := RX2) tyX2 tyX2_ok nmX2 rfl zinX2 (by decide) rfl rfl rfl (fty := tyX2 2) (tyX2_ok 2 (by decide)) (fun _ => rfl) (fun _ => rfl) zfX2_18 dX2_init_25 ?_
  refine k_aload_n hx hb dX2_init_28 rfl ?_
  refine k_bipush hx hb dX2_init_29 (by decide) ?_
  refine k_newa C (aty := .int) (ty := .int) (ti := 0) (n := 40) (a := (40, .inl (fun _ => 0))) rfl za_int rfl (fun _ => rfl) (fun _ _ h => h) (by decide) (Nat.le_of_ble_eq_true rfl) dX2_init_31 ?_
  refine k_putr C hin2 (ci := 2) (k := 3) (Tf := TX2) (Nf := 7) (Cn := RX2) tyX2 tyX2_ok nmX2 rfl zinX2 (by decide) rfl rfl rfl (fty := tyX2 3) (tyX2_ok 3 (by decide)) (fun _ => rfl) (fun _ => rfl) zfX2_21 dX2_init_33 ?_
  refine k_aload_n hx hb dX2_init_36 rfl ?_
  refine k_bipush hx hb dX2_init_37 (by decide) ?_
  refine k_newa C (aty := .int) (ty := .int) (ti := 0) (n := 40) (a := (40, .inl (fun _ => 0))) rfl za_int rfl (fun _ => rfl) (fun _ _ h => h) (by decide) (Nat.le_of_ble_eq_true rfl) dX2_init_39 ?_
  refine k_putr C hin2 (ci := 2) (k := 4) (Tf := TX2) (Nf := 7) (Cn := RX2) tyX2 tyX2_ok nmX2 rfl zinX2 (by decide) rfl rfl rfl (fty := tyX2 4) (tyX2_ok 4 (by decide)) (fun _ => rfl) (fun _ => rfl) zfX2_24 dX2_init_41 ?_
  refine k_aload_n hx hb dX2_init_44 rfl ?_
  refine k_bipush hx hb dX2_init_45 (by decide) ?_
  refine k_newa C (aty := .int) (ty := .int) (ti := 0) (n := 40) (a := (40, .inl (fun _ => 0))) rfl za_int rfl (fun _ => rfl) (fun _ _ h => h) (by decide) (Nat.le_of_ble_eq_true rfl) dX2_init_47 ?_
  refine k_putr C hin2 (ci := 2) (k := 5) (Tf := TX2) (Nf := 7) (Cn := RX2) tyX2 tyX2_ok nmX2 rfl zinX2 (by decide) rfl rfl rfl (fty := tyX2 5) (tyX2_ok 5 (by decide)) (fun _ => rfl) (fun _ => rfl) zfX2_27 dX2_init_49 ?_
  exact k_vretC C hr dX2_init_52
set_option maxRecDepth 20000 in
set_option maxHeartbeats 4000000 in
theorem vX2i {l : Launch} {z0 b : Nat} {D : va_G} {cA : Nat → ClassId} (hlt : l.stackTraces = false) : SemC l z0 b D cA yX2_init cX2_init 1 1 18 15 6 240 (.inr (2, [.null, .null, .null, .null, .null, .null, .int 0])) (cQ zT0.2.2.2.1) := by
  refine semC_of hlt (by decide +kernel) (by decide) rfl (fun p e s m args below meth c h0 C hr hin2 => sX2i hlt C hr hin2 _ _ _ ?_)
  simp only [bX2i, o_aload, o_oin, o_ic, o_newa, o_putr, o_vretC, o_new, o_dup, o_ini, zE, zsb, List.map_cons, List.map_nil, List.length_cons, List.length_nil, List.replicate, List.cons_append, List.nil_append, List.append_nil, List.getElem?_cons_zero, List.getElem?_cons_succ, List.set_cons_zero, List.set_cons_succ, Nat.reduceAdd, Nat.reduceSub, Nat.reduceLT, Nat.reduceLeDiff, Nat.zero_add, Nat.add_zero, true_and, and_true, Nat.le_refl]
  refine ⟨rfl, rfl, rfl, rfl, rfl, rfl, ?_⟩
  rfl
def bX0i : ZK ZC := o_aload 0 (o_oin (o_aload 0 (o_ic (20) (o_newa 4 460 22 1 0 20 (20, .inl (fun _ => 0)) (o_putr 22 0 0 (o_aload 0 (o_ic (20) (o_newa 4 460 22 1 0 20 (20, .inl (fun _ => 0)) (o_putr 22 0 1 (o_aload 0 (o_ic (20) (o_newa 4 460 22 1 0 20 (20, .inl (fun _ => 0)) (o_putr 22 0 2 (o_aload 0 (o_ic (400) (o_newa 4 460 22 1 0 400 (400, .inl (fun _ => 0)) (o_putr 22 0 3 (o_vretC 4 460 (cH zT0.2.2.2.2.1)))))))))))))))))))
set_option maxRecDepth 20000 in
theorem sX0i {l : Launch} {z0 b : Nat} {D : va_G} {cA : Nat → ClassId} {p : Program} {e : Env} {s : State} {m : MethodId} {args : Array Value} {below : List Frame} {meth : Method} {c : Code} {h0 : ZH} {XC : String → State → State → Prop} (hlt : l.stackTraces = false) (C : zCx p l { frames := 1, cells := 4, slots := 460, locals := 18 } s m args meth c cX0_init 1 RX0 z0 D cA 0) (hr : meth.sig.returnType = none) (hin2 : meth.name = "<init>") : Snd p l e { frames := 1, cells := 4, slots := 460, locals := 18 } s m args below meth c 1 z0 b (iC z0 b 22 1 h0 D cA s) (cC 1) (vx_MQ below (zQn z0 b (22 + 1 + 4) D cA (fun v g => v = none ∧ g = zB 22 (cH zT0.2.2.2.2.1) h0)) XC args s 4 460 (fun q => z0 ≤ q)) 0 bX0i := by
  obtain ⟨hx, hb, hml, hown, hts, -⟩ := id C
  unfold bX0i
  refine k_aload_n hx hb dX0_init_0 rfl ?_
  refine k_oin C zlX0_3 zoi zoc ⟨Nat.le_of_ble_eq_true rfl, Nat.le_of_ble_eq_true rfl⟩ dX0_init_1 ?_
  refine k_aload_n hx hb dX0_init_4 rfl ?_
  refine k_bipush hx hb dX0_init_5 (by decide) ?_
  refine k_newa C (aty := .int) (ty := .int) (ti := 0) (n := 20) (a := (20, .inl (fun _ => 0))) rfl za_int rfl (fun _ => rfl) (fun _ _ h => h) (by decide) (Nat.le_of_ble_eq_true rfl) dX0_init_7 ?_
  refine k_putr C hin2 (ci := 0) (k := 0) (Tf := TX0) (Nf := 7) (Cn := RX0) tyX0 tyX0_ok nmX0 rfl zinX0 (by decide) rfl rfl rfl (fty := tyX0 0) (tyX0_ok 0 (by decide)) (fun _ => rfl) (fun _ => rfl) zfX0_9 dX0_init_9 ?_
  refine k_aload_n hx hb dX0_init_12 rfl ?_
  refine k_bipush hx hb dX0_init_13 (by decide) ?_
  refine k_newa C (aty := .int) (ty := .int) (ti := 0) (n := 20) (a := (20, .inl (fun _ => 0))) rfl za_int rfl (fun _ => rfl) (fun _ _ h => h) (by decide) (Nat.le_of_ble_eq_true rfl) dX0_init_15 ?_
  refine k_putr C hin2 (ci := 0) (k := 1) (Tf := TX0) (Nf := 7) (Cn := RX0) tyX0 tyX0_ok nmX0 rfl zinX0 (by decide) rfl rfl rfl (fty := tyX0 1) (tyX0_ok 1 (by decide)) (fun _ => rfl) (fun _ => rfl) zfX0_15 dX0_init_17 ?_
  refine k_aload_n hx hb dX0_init_20 rfl ?_
  refine k_bipush hx hb dX0_init_21 (by decide) ?_
  refine k_newa C (aty := .int) (ty := .int) (ti := 0) (n := 20) (a := (20, .inl (fun _ => 0))) rfl za_int rfl (fun _ => rfl) (fun _ _ h => h) (by decide) (Nat.le_of_ble_eq_true rfl) dX0_init_23 ?_
  refine k_putr C hin2 (ci := 0) (k := 2) (Tf := TX0) (Nf := 7) (Cn := RX0) tyX0 tyX0_ok nmX0 rfl zinX0 (by decide) rfl rfl rfl (fty := tyX0 2) (tyX0_ok 2 (by decide)) (fun _ => rfl) (fun _ => rfl) zfX0_18 dX0_init_25 ?_
  refine k_aload_n hx hb dX0_init_28 rfl ?_
  refine k_sipush hx hb dX0_init_29 (by decide) ?_
  refine k_newa C (aty := .int) (ty := .int) (ti := 0) (n := 400) (a := (400, .inl (fun _ => 0))) rfl za_int rfl (fun _ => rfl) (fun _ _ h => h) (by decide) (Nat.le_of_ble_eq_true rfl) dX0_init_32 ?_
  refine k_putr C hin2 (ci := 0) (k := 3) (Tf := TX0) (Nf := 7) (Cn := RX0) tyX0 tyX0_ok nmX0 rfl zinX0 (by decide) rfl rfl rfl (fty := tyX0 3) (tyX0_ok 3 (by decide)) (fun _ => rfl) (fun _ => rfl) zfX0_21 dX0_init_34 ?_
  exact k_vretC C hr dX0_init_37
set_option maxRecDepth 20000 in
set_option maxHeartbeats 4000000 in
theorem vX0i {l : Launch} {z0 b : Nat} {D : va_G} {cA : Nat → ClassId} (hlt : l.stackTraces = false) : SemC l z0 b D cA yX0_init cX0_init 1 1 18 22 4 460 (.inr (0, [.null, .null, .null, .null, .int 0, .int 0, .int 0])) (cH zT0.2.2.2.2.1) := by
  refine semC_of hlt (by decide +kernel) (by decide) rfl (fun p e s m args below meth c h0 C hr hin2 => sX0i hlt C hr hin2 _ _ _ ?_)
  simp only [bX0i, o_aload, o_oin, o_ic, o_newa, o_putr, o_vretC, o_new, o_dup, o_ini, zE, zsb, List.map_cons, List.map_nil, List.length_cons, List.length_nil, List.replicate, List.cons_append, List.nil_append, List.append_nil, List.getElem?_cons_zero, List.getElem?_cons_succ, List.set_cons_zero, List.set_cons_succ, Nat.reduceAdd, Nat.reduceSub, Nat.reduceLT, Nat.reduceLeDiff, Nat.zero_add, Nat.add_zero, true_and, and_true, Nat.le_refl]
  refine ⟨rfl, rfl, rfl, rfl, ?_⟩
  rfl
def bX3i : ZK ZC := o_aload 0 (o_oin (o_aload 0 (o_ic (24) (o_newa 1 24 27 1 0 24 (24, .inl (fun _ => 0)) (o_putr 27 3 0 (o_vretC 1 24 (cV zT0.2.2.2.2.2)))))))
set_option maxRecDepth 20000 in
theorem sX3i {l : Launch} {z0 b : Nat} {D : va_G} {cA : Nat → ClassId} {p : Program} {e : Env} {s : State} {m : MethodId} {args : Array Value} {below : List Frame} {meth : Method} {c : Code} {h0 : ZH} {XC : String → State → State → Prop} (hlt : l.stackTraces = false) (C : zCx p l { frames := 1, cells := 1, slots := 24, locals := 18 } s m args meth c cX3_init 1 RX3 z0 D cA 0) (hr : meth.sig.returnType = none) (hin2 : meth.name = "<init>") : Snd p l e { frames := 1, cells := 1, slots := 24, locals := 18 } s m args below meth c 1 z0 b (iC z0 b 27 1 h0 D cA s) (cC 1) (vx_MQ below (zQn z0 b (27 + 1 + 1) D cA (fun v g => v = none ∧ g = zB 27 (cV zT0.2.2.2.2.2) h0)) XC args s 1 24 (fun q => z0 ≤ q)) 0 bX3i := by
  obtain ⟨hx, hb, hml, hown, hts, -⟩ := id C
  unfold bX3i
  refine k_aload_n hx hb dX3_init_0 rfl ?_
  refine k_oin C zlX3_3 zoi zoc ⟨Nat.le_of_ble_eq_true rfl, Nat.le_of_ble_eq_true rfl⟩ dX3_init_1 ?_
  refine k_aload_n hx hb dX3_init_4 rfl ?_
  refine k_bipush hx hb dX3_init_5 (by decide) ?_
  refine k_newa C (aty := .int) (ty := .int) (ti := 0) (n := 24) (a := (24, .inl (fun _ => 0))) rfl za_int rfl (fun _ => rfl) (fun _ _ h => h) (by decide) (Nat.le_of_ble_eq_true rfl) dX3_init_7 ?_
  refine k_putr C hin2 (ci := 3) (k := 0) (Tf := TX3) (Nf := 1) (Cn := RX3) tyX3 tyX3_ok nmX3 rfl zinX3 (by decide) rfl rfl rfl (fty := tyX3 0) (tyX3_ok 0 (by decide)) (fun _ => rfl) (fun _ => rfl) zfX3_9 dX3_init_9 ?_
  exact k_vretC C hr dX3_init_12
set_option maxRecDepth 20000 in
set_option maxHeartbeats 4000000 in
theorem vX3i {l : Launch} {z0 b : Nat} {D : va_G} {cA : Nat → ClassId} (hlt : l.stackTraces = false) : SemC l z0 b D cA yX3_init cX3_init 1 1 18 27 1 24 (.inr (3, [.null])) (cV zT0.2.2.2.2.2) := by
  refine semC_of hlt (by decide +kernel) (by decide) rfl (fun p e s m args below meth c h0 C hr hin2 => sX3i hlt C hr hin2 _ _ _ ?_)
  simp only [bX3i, o_aload, o_oin, o_ic, o_newa, o_putr, o_vretC, o_new, o_dup, o_ini, zE, zsb, List.map_cons, List.map_nil, List.length_cons, List.length_nil, List.replicate, List.cons_append, List.nil_append, List.append_nil, List.getElem?_cons_zero, List.getElem?_cons_succ, List.set_cons_zero, List.set_cons_succ, Nat.reduceAdd, Nat.reduceSub, Nat.reduceLT, Nat.reduceLeDiff, Nat.zero_add, Nat.add_zero, true_and, and_true, Nat.le_refl]
  refine ⟨rfl, ?_⟩
  rfl
def bX5i : ZK ZC := o_aload 0 (o_oin (o_aload 0 (o_new 28 1170 0 1 1 5 [.null, .null, .null, .int 0, .int 0] (o_dup (o_ini 28 1170 0 1 1 3 224 (.inr (1, [.null, .null, .null, .int 0, .int 0])) (cN zT0.1) (o_putr 0 5 0 (o_aload 0 (o_new 28 1170 0 1 4 5 [.null, .null, .null, .null, .int 0] (o_dup (o_ini 28 1170 0 1 5 4 96 (.inr (4, [.null, .null, .null, .null, .int 0])) (cR 5 zT0.2.1) (o_putr 0 5 1 (o_aload 0 (o_new 28 1170 0 1 4 5 [.null, .null, .null, .null, .int 0] (o_dup (o_ini 28 1170 0 1 10 4 96 (.inr (4, [.null, .null, .null, .null, .int 0])) (cR 10 zT0.2.2.1) (o_putr 0 5 2 (o_aload 0 (o_new 28 1170 0 1 2 7 [.null, .null, .null, .null, .null, .null, .int 0] (o_dup (o_ini 28 1170 0 1 15 6 240 (.inr (2, [.null, .null, .null, .null, .null, .null, .int 0])) (cQ zT0.2.2.2.1) (o_putr 0 5 3 (o_aload 0 (o_new 28 1170 0 1 0 7 [.null, .null, .null, .null, .int 0, .int 0, .int 0] (o_dup (o_ini 28 1170 0 1 22 4 460 (.inr (0, [.null, .null, .null, .null, .int 0, .int 0, .int 0])) (cH zT0.2.2.2.2.1) (o_putr 0 5 4 (o_aload 0 (o_new 28 1170 0 1 3 1 [.null] (o_dup (o_ini 28 1170 0 1 27 1 24 (.inr (3, [.null])) (cV zT0.2.2.2.2.2) (o_putr 0 5 5 (o_vretC 28 1170 (cT zT0)))))))))))))))))))))))))))))))))
set_option maxRecDepth 20000 in
theorem sX5i {l : Launch} {z0 b : Nat} {D : va_G} {cA : Nat → ClassId} {p : Program} {e : Env} {s : State} {m : MethodId} {args : Array Value} {below : List Frame} {meth : Method} {c : Code} {h0 : ZH} {XC : String → State → State → Prop} (hlt : l.stackTraces = false) (C : zCx p l { frames := 2, cells := 28, slots := 1170, locals := 38 } s m args meth c cX5_init 1 RX5 z0 D cA 0) (hr : meth.sig.returnType = none) (hin2 : meth.name = "<init>") : Snd p l e { frames := 2, cells := 28, slots := 1170, locals := 38 } s m args below meth c 1 z0 b (iC z0 b 0 1 h0 D cA s) (cC 1) (vx_MQ below (zQn z0 b (0 + 1 + 28) D cA (fun v g => v = none ∧ g = zB 0 (cT zT0) h0)) XC args s 28 1170 (fun q => z0 ≤ q)) 0 bX5i := by
  obtain ⟨hx, hb, hml, hown, hts, -⟩ := id C
  unfold bX5i
  refine k_aload_n hx hb dX5_init_0 rfl ?_
  refine k_oin C zlX5_1 zoi zoc ⟨Nat.le_of_ble_eq_true rfl, Nat.le_of_ble_eq_true rfl⟩ dX5_init_1 ?_
  refine k_aload_n hx hb dX5_init_4 rfl ?_
  refine k_new C (ci := 1) (nf := 5) (Cn := RX1) (Tf := TX1) tyX1 tyX1_ok rfl zinX1 znX5_7 zbX1 ziX1 (fs := [.null, .null, .null, .int 0, .int 0]) (zfs rfl) dfsX1 dX5_init_5 ?_
  refine k_dup hx hb dX5_init_8 ?_
  refine k_ini C (nA := 1) (by rfl) (run_nest C (k := 0 + 1) (host := "TagRoot") (vX1i hlt) (by decide +kernel) ziX1 zmX1_init zcX1_init rfl (by decide +kernel) ⟨Nat.le_of_ble_eq_true rfl, Nat.le_of_ble_eq_true rfl⟩ dX5_init_9) ?_
  refine k_putr C hin2 (ci := 5) (k := 0) (Tf := TX5) (Nf := 6) (Cn := RX5) tyX5 tyX5_ok nmX5 rfl zinX5 (by decide) rfl rfl rfl (fty := tyX5 0) (tyX5_ok 0 (by decide)) (fun _ => rfl) (fun _ => rfl) zfX5_10 dX5_init_12 ?_
  refine k_aload_n hx hb dX5_init_15 rfl ?_
  refine k_new C (ci := 4) (nf := 5) (Cn := RX4) (Tf := TX4) tyX4 tyX4_ok rfl zinX4 znX5_16 zbX4 ziX4 (fs := [.null, .null, .null, .null, .int 0]) (zfs rfl) dfsX4 dX5_init_16 ?_
  refine k_dup hx hb dX5_init_19 ?_
  refine k_ini C (nA := 5) (by rfl) (run_nest C (k := 0 + 5) (host := "TagRoot") (vX4i hlt) (by decide +kernel) ziX4 zmX4_init zcX4_init rfl (by decide +kernel) ⟨Nat.le_of_ble_eq_true rfl, Nat.le_of_ble_eq_true rfl⟩ dX5_init_20) ?_
  refine k_putr C hin2 (ci := 5) (k := 1) (Tf := TX5) (Nf := 6) (Cn := RX5) tyX5 tyX5_ok nmX5 rfl zinX5 (by decide) rfl rfl rfl (fty := tyX5 1) (tyX5_ok 1 (by decide)) (fun _ => rfl) (fun _ => rfl) zfX5_19 dX5_init_23 ?_
  refine k_aload_n hx hb dX5_init_26 rfl ?_
  refine k_new C (ci := 4) (nf := 5) (Cn := RX4) (Tf := TX4) tyX4 tyX4_ok rfl zinX4 znX5_16 zbX4 ziX4 (fs := [.null, .null, .null, .null, .int 0]) (zfs rfl) dfsX4 dX5_init_27 ?_
  refine k_dup hx hb dX5_init_30 ?_
  refine k_ini C (nA := 10) (by rfl) (run_nest C (k := 0 + 10) (host := "TagRoot") (vX4j hlt) (by decide +kernel) ziX4 zmX4_init zcX4_init rfl (by decide +kernel) ⟨Nat.le_of_ble_eq_true rfl, Nat.le_of_ble_eq_true rfl⟩ dX5_init_31) ?_
  refine k_putr C hin2 (ci := 5) (k := 2) (Tf := TX5) (Nf := 6) (Cn := RX5) tyX5 tyX5_ok nmX5 rfl zinX5 (by decide) rfl rfl rfl (fty := tyX5 2) (tyX5_ok 2 (by decide)) (fun _ => rfl) (fun _ => rfl) zfX5_23 dX5_init_34 ?_
  refine k_aload_n hx hb dX5_init_37 rfl ?_
  refine k_new C (ci := 2) (nf := 7) (Cn := RX2) (Tf := TX2) tyX2 tyX2_ok rfl zinX2 znX5_26 zbX2 ziX2 (fs := [.null, .null, .null, .null, .null, .null, .int 0]) (zfs rfl) dfsX2 dX5_init_38 ?_
  refine k_dup hx hb dX5_init_41 ?_
  refine k_ini C (nA := 15) (by rfl) (run_nest C (k := 0 + 15) (host := "TagRoot") (vX2i hlt) (by decide +kernel) ziX2 zmX2_init zcX2_init rfl (by decide +kernel) ⟨Nat.le_of_ble_eq_true rfl, Nat.le_of_ble_eq_true rfl⟩ dX5_init_42) ?_
  refine k_putr C hin2 (ci := 5) (k := 3) (Tf := TX5) (Nf := 6) (Cn := RX5) tyX5 tyX5_ok nmX5 rfl zinX5 (by decide) rfl rfl rfl (fty := tyX5 3) (tyX5_ok 3 (by decide)) (fun _ => rfl) (fun _ => rfl) zfX5_29 dX5_init_45 ?_
  refine k_aload_n hx hb dX5_init_48 rfl ?_
  refine k_new C (ci := 0) (nf := 7) (Cn := RX0) (Tf := TX0) tyX0 tyX0_ok rfl zinX0 znX5_33 zbX0 ziX0 (fs := [.null, .null, .null, .null, .int 0, .int 0, .int 0]) (zfs rfl) dfsX0 dX5_init_49 ?_
  refine k_dup hx hb dX5_init_52 ?_
  refine k_ini C (nA := 22) (by rfl) (run_nest C (k := 0 + 22) (host := "TagRoot") (vX0i hlt) (by decide +kernel) ziX0 zmX0_init zcX0_init rfl (by decide +kernel) ⟨Nat.le_of_ble_eq_true rfl, Nat.le_of_ble_eq_true rfl⟩ dX5_init_53) ?_
  refine k_putr C hin2 (ci := 5) (k := 4) (Tf := TX5) (Nf := 6) (Cn := RX5) tyX5 tyX5_ok nmX5 rfl zinX5 (by decide) rfl rfl rfl (fty := tyX5 4) (tyX5_ok 4 (by decide)) (fun _ => rfl) (fun _ => rfl) zfX5_36 dX5_init_56 ?_
  refine k_aload_n hx hb dX5_init_59 rfl ?_
  refine k_new C (ci := 3) (nf := 1) (Cn := RX3) (Tf := TX3) tyX3 tyX3_ok rfl zinX3 znX5_40 zbX3 ziX3 (fs := [.null]) (zfs rfl) dfsX3 dX5_init_60 ?_
  refine k_dup hx hb dX5_init_63 ?_
  refine k_ini C (nA := 27) (by rfl) (run_nest C (k := 0 + 27) (host := "TagRoot") (vX3i hlt) (by decide +kernel) ziX3 zmX3_init zcX3_init rfl (by decide +kernel) ⟨Nat.le_of_ble_eq_true rfl, Nat.le_of_ble_eq_true rfl⟩ dX5_init_64) ?_
  refine k_putr C hin2 (ci := 5) (k := 5) (Tf := TX5) (Nf := 6) (Cn := RX5) tyX5 tyX5_ok nmX5 rfl zinX5 (by decide) rfl rfl rfl (fty := tyX5 5) (tyX5_ok 5 (by decide)) (fun _ => rfl) (fun _ => rfl) zfX5_43 dX5_init_67 ?_
  exact k_vretC C hr dX5_init_70
set_option maxRecDepth 20000 in
set_option maxHeartbeats 4000000 in
theorem vX5i {l : Launch} {z0 b : Nat} {D : va_G} {cA : Nat → ClassId} (hlt : l.stackTraces = false) : SemC l z0 b D cA yX5_init cX5_init 1 2 38 0 28 1170 (.inr (5, [.null, .null, .null, .null, .null, .null])) (cT zT0) := by
  refine semC_of hlt (by decide +kernel) (by decide) rfl (fun p e s m args below meth c h0 C hr hin2 => sX5i hlt C hr hin2 _ _ _ ?_)
  simp only [bX5i, o_aload, o_oin, o_ic, o_newa, o_putr, o_vretC, o_new, o_dup, o_ini, zE, zsb, List.map_cons, List.map_nil, List.length_cons, List.length_nil, List.replicate, List.cons_append, List.nil_append, List.append_nil, List.getElem?_cons_zero, List.getElem?_cons_succ, List.set_cons_zero, List.set_cons_succ, Nat.reduceAdd, Nat.reduceSub, Nat.reduceLT, Nat.reduceLeDiff, Nat.zero_add, Nat.add_zero, true_and, and_true, Nat.le_refl]
  refine ⟨rfl, (.inr (5, [.null, .null, .null, .null, .null, .null]) :: ([]) : List va_E), rfl, rfl, rfl, Nat.le_of_ble_eq_true rfl, ?_⟩
  refine ⟨Nat.le_of_ble_eq_true rfl, rfl, rfl, (.inr (5, [.ref 1, .null, .null, .null, .null, .null]) :: (cN zT0.1) : List va_E), rfl, rfl, rfl, Nat.le_of_ble_eq_true rfl, ?_⟩
  refine ⟨Nat.le_of_ble_eq_true rfl, rfl, rfl, (.inr (5, [.ref 1, .ref 5, .null, .null, .null, .null]) :: (cN zT0.1 ++ cR 5 zT0.2.1) : List va_E), rfl, rfl, rfl, Nat.le_of_ble_eq_true rfl, ?_⟩
  refine ⟨Nat.le_of_ble_eq_true rfl, rfl, rfl, (.inr (5, [.ref 1, .ref 5, .ref 10, .null, .null, .null]) :: (cN zT0.1 ++ cR 5 zT0.2.1 ++ cR 10 zT0.2.2.1) : List va_E), rfl, rfl, rfl, Nat.le_of_ble_eq_true rfl, ?_⟩
  refine ⟨Nat.le_of_ble_eq_true rfl, rfl, rfl, (.inr (5, [.ref 1, .ref 5, .ref 10, .ref 15, .null, .null]) :: (cN zT0.1 ++ cR 5 zT0.2.1 ++ cR 10 zT0.2.2.1 ++ cQ zT0.2.2.2.1) : List va_E), rfl, rfl, rfl, Nat.le_of_ble_eq_true rfl, ?_⟩
  refine ⟨Nat.le_of_ble_eq_true rfl, rfl, rfl, (.inr (5, [.ref 1, .ref 5, .ref 10, .ref 15, .ref 22, .null]) :: (cN zT0.1 ++ cR 5 zT0.2.1 ++ cR 10 zT0.2.2.1 ++ cQ zT0.2.2.2.1 ++ cH zT0.2.2.2.2.1) : List va_E), rfl, rfl, rfl, Nat.le_of_ble_eq_true rfl, ?_⟩
  exact ⟨rfl, rfl⟩
