/-! ===== the script, and the method that reads it ===== -/
section CELL
variable {p : Program} {l : Launch} {e : Env} {R : Room} {s : State} {m : MethodId} {args : Array Value} {below : List Frame} {meth : Method} {c : Code}
variable {τ : Type} {nL z0 b : Nat} {I : τ → Heap → List Loc → Prop} {cs : τ → Nat × Nat} {Q : State → Prop} {pc : Nat} {cc : ByteArray} {KK : ZK τ}
def o_alS (i : Nat) (K : ZK τ) : ZK τ := fun ls st h => match ls[i]? with
  | some (some (.retAddr x)) => K ls (.retAddr x :: st) h
  | _ => False
theorem k_alS (hx : p.tables.exec = Jvm.exec) (hb : c.code = cc) {k : Fin 4} {i : Nat} (d : decode cc pc = .ok (.aload_n k, 1)) (hi : (k : Nat) = i) (hK : Snd p l e R s m args below meth c nL z0 b I cs Q (pc + 1) KK) : Snd p l e R s m args below meth c nL z0 b I cs Q pc (o_alS i KK) := by
  intro ls st h hk H locs L hI hL
  simp only [o_alS] at hk
  split at hk
  · next x hq => exact lv_aload_n hx hb d hi (zL_at hL hq) (hK _ _ _ hk H locs L hI hL)
  · exact hk.elim
def o_sldG (xs : Nat → Int32) (Ln : Nat) (K : ZK τ) : ZK τ := fun ls st t => match st with
  | .int i :: .retAddr _ :: r => vp_in i Ln ∧ K ls (.int (xs i.toNatClampNeg) :: r) t
  | _ => False
theorem k_sldG {A : Nat → Prop} (hA : ∀ t H locs, I t H locs → va_S A s.heap H locs) (hx : p.tables.exec = Jvm.exec) (hb : c.code = cc) {xs : Nat → Int32} {Ln : Nat} (hX : va_X b Ln xs s s.heap) (hbl : b < s.heap.size) (hbz : ¬ A b) (d : decode cc pc = .ok (.iaload, 1)) (hK : Snd p l e R s m args below meth c nL z0 b I cs Q (pc + 1) KK) : Snd p l e R s m args below meth c nL z0 b I cs Q pc (o_sldG xs Ln KK) := by
  intro ls st t hq H locs L hI hL
  unfold o_sldG at hq
  split at hq
  · next i x r => exact va_sld hx hb hX hbl hbz (hA _ _ _ hI) hq.1 d (hK _ _ _ hq.2 H locs L hI hL)
  · exact hq.elim
def o_slenG (Ln : Nat) (K : ZK τ) : ZK τ := fun ls st t => match st with
  | .retAddr _ :: r => K ls (.int (nI Ln) :: r) t
  | _ => False
theorem k_slenG {A : Nat → Prop} (hA : ∀ t H locs, I t H locs → va_S A s.heap H locs) (hx : p.tables.exec = Jvm.exec) (hb : c.code = cc) {xs : Nat → Int32} {Ln : Nat} (hX : va_X b Ln xs s s.heap) (hbl : b < s.heap.size) (hbz : ¬ A b) (d : decode cc pc = .ok (.arraylength, 1)) (hK : Snd p l e R s m args below meth c nL z0 b I cs Q (pc + 1) KK) : Snd p l e R s m args below meth c nL z0 b I cs Q pc (o_slenG Ln KK) := by
  intro ls st t hq H locs L hI hL
  unfold o_slenG at hq
  split at hq
  · next x r => exact va_slen hx hb hX hbl hbz (hA _ _ _ hI) d (hK _ _ _ hq H locs L hI hL)
  · exact hq.elim
def o_retU : ZK Unit := fun _ st _ => match st with
  | [.int _] => True
  | _ => False
end CELL
abbrev Ic (s : State) : Unit → Heap → List Loc → Prop := fun _ H locs => va_S (fun _ : Nat => False) s.heap H locs
def Pcell (b Ln : Nat) (xs : Nat → Int32) (a : Nat) : Array Value → State → Prop := va_Pc [.ref b, .int (nI a)] (fun U => b < U.heap.size ∧ va_X b Ln xs U U.heap)
def Qcell : Array Value → State → Outcome → State → Prop := fun _ st oc t => (∃ v : Int32, oc = .returned (some (.int v))) ∧ va_F (fun _ => False) st t
theorem Pcell.blind {b Ln a : Nat} {xs : Nat → Int32} : FrameBlind (Pcell b Ln xs a) := fun x U g mk q => ⟨q.1, q.2.1, q.2.2.moved (State.WarmedH.refl U).alike⟩
theorem vL_cell {l : Launch} {b Ln a : Nat} {xs : Nat → Int32} (hLn : Ln < 2 ^ 31) (ha : a < 2 ^ 31) : Met l yL_cell (Cond.code yL_cell cL_cell 2 (some .int) :: zWS) (zRm 0 0 0) (Pcell b Ln xs a) Qcell 0 (6 * 0) (fun _ => False) := by
  refine zMet (XC := fun _ _ _ => False) (vx_ofW (by decide +kernel) rfl ?_) (fun _ _ _ h => h)
  intro p e s m args below meth c s₁ B hml htab hv
  obtain ⟨rfl, hb9, hX⟩ := hv
  have hx : p.tables.exec = Jvm.exec := B.exec
  have hb : c.code = cL_cell := B.bytes
  have hret : Snd p l e (zRm 0 0 0) s m ([Value.ref b, .int (nI a)] : List Value).toArray below meth c 2 0 b (Ic s) (fun _ => (0, 0)) (vx_MQ below Qcell (fun _ _ _ => False) ([Value.ref b, .int (nI a)] : List Value).toArray s 0 (6 * 0) (fun _ => False)) 27 o_retU := by
    intro ls st t hq H locs L hI hL
    unfold o_retU at hq
    split at hq
    · next v =>
      exact vx_ret (W.zret hx hb B.returns rfl (fun t9 ht hW => ⟨⟨v, rfl⟩, hI.F ht⟩) hI.2.2 dL_cell_27 B.notSynchronized)
    · exact hq.elim
  have hA : ∀ t H locs, Ic s t H locs → va_S (fun _ : Nat => False) s.heap H locs := fun _ _ _ h => h
  have hs : Snd p l e (zRm 0 0 0) s m ([Value.ref b, .int (nI a)] : List Value).toArray below meth c 2 0 b (Ic s) (fun _ => (0, 0)) (vx_MQ below Qcell (fun _ _ _ => False) ([Value.ref b, .int (nI a)] : List Value).toArray s 0 (6 * 0) (fun _ => False)) 0 (o_iload 1 (o_alS 0 (o_slenG Ln (o_if2 (fun x y => y ≤ x) (o_ic 7919 (o_iload 1 (o_ic 571 (o_bin (fun x y => x + y) (o_bin (fun x y => x * y) (o_iload 1 (o_ic 2887 (o_bin (fun x y => x + y) (o_bin (fun x y => x * y) o_retU))))))))) (o_alS 0 (o_iload 1 (o_sldG xs Ln o_retU))))))) := by
    refine k_iload_n hx hb dL_cell_0 rfl ?_
    refine k_alS hx hb dL_cell_1 rfl ?_
    refine k_slenG hA hx hb hX hb9 (fun h => h) dL_cell_2 ?_
    refine k_icmp_ge (tgt := 12) hx hb dL_cell_3 (by decide) ?_ ?_
    · refine k_sipush hx hb dL_cell_12 (by decide) ?_
      refine k_iload_n hx hb dL_cell_15 rfl ?_
      refine k_sipush hx hb dL_cell_16 (by decide) ?_
      refine k_iadd hx hb dL_cell_19 ?_
      refine k_imul hx hb dL_cell_20 ?_
      refine k_iload_n hx hb dL_cell_21 rfl ?_
      refine k_sipush hx hb dL_cell_22 (by decide) ?_
      refine k_iadd hx hb dL_cell_25 ?_
      refine k_imul hx hb dL_cell_26 ?_
      exact hret
    · refine k_alS hx hb dL_cell_6 rfl ?_
      refine k_iload_n hx hb dL_cell_7 rfl ?_
      refine k_sldG hA hx hb hX hb9 (fun h => h) dL_cell_8 ?_
      exact k_goto (tgt := 27) hx hb dL_cell_9 (by decide) hret
  have hW := hs (zE 2 [.retAddr 0, .int (nI a)]) [] () (by
    simp only [o_iload, o_alS, o_slenG, o_if2, o_ic, o_bin, o_sldG, o_retU, zE, List.map_cons, List.map_nil, List.length_cons, List.length_nil, List.replicate_zero, List.append_nil, List.getElem?_cons_zero, List.getElem?_cons_succ, Nat.reduceAdd, Nat.reduceSub, Nat.zero_add]
    refine ⟨fun _ => trivial, fun h => ⟨vp_in_nI ?_ hLn, trivial⟩⟩
    rcases Nat.lt_or_ge a Ln with h9 | h9
    · exact h9
    · exact absurd ((nI_leI hLn ha).mpr h9) h) s.heap [] _ va_S.rf (zE_ok (z0 := 0) (b := b) (a := [.retAddr 0, .int (nI a)]) (by simp [Value.category]) (Nat.le_refl 2))
  rw [lg_entry_eq]
  exact hW
section CELLC
variable {p : Program} {l : Launch} {e : Env} {R : Room} {s : State} {m : MethodId} {args : Array Value} {below : List Frame} {meth : Method} {c : Code}
variable {nL z0 b c0 d0 MB : Nat} {D : va_G} {cA : Nat → ClassId} {Q : State → Prop} {pc : Nat} {cc : ByteArray} {own : String} {K : ZK QQ}
def o_cell (MB : Nat) (K : ZK QQ) : ZK QQ := fun ls st t => match st with
  | .int x :: .retAddr _ :: r => (∃ a, a < 2 ^ 31 ∧ x = nI a) ∧ r.length ≤ 4 ∧ t.2.2.1 ≤ MB ∧ ∀ v, K ls (.int v :: r) t
  | _ => False
theorem k_cell (C : zCx p l R s m args meth c cc nL own z0 D cA 0) {idx : Nat} {xs : Nat → Int32} {Ln : Nat} (hX : va_X b Ln xs s s.heap) (hLn : Ln < 2 ^ 31) (hbl : b < s.heap.size) (hbz : ¬ z0 ≤ b) (hlink : Cond.methodLink own idx yL_cell ∈ zWS) (hstat : Cond.static yL_cell ∈ zWS) (hini : Cond.initialized yL_cell.cls ∈ zWS) (hcode : Cond.code yL_cell cL_cell 2 (some .int) ∈ zWS)
    (hd : yL_cell.cls ≠ "java/lang/invoke/MethodHandle" ∧ yL_cell.cls ≠ "java/lang/invoke/VarHandle" ∧ (parseMethodDescriptor yL_cell.desc).map (fun d => d.parameters.length) = some 2) (hR : 0 + 1 ≤ R.frames ∧ 8 + (2 + 11) + 0 ≤ R.locals) (hRb : c0 + MB ≤ R.cells ∧ d0 + 6 * MB ≤ R.slots) (d : decode cc pc = .ok (.invokestatic idx, 3))
    (hK : Snd p l e R s m args below meth c nL z0 b (I2 z0 b D cA c0 s) (c2 c0 d0) Q (pc + 3) K) : Snd p l e R s m args below meth c nL z0 b (I2 z0 b D cA c0 s) (c2 c0 d0) Q pc (o_cell MB K) := by
  intro ls st t hq H locs L hI hL
  obtain ⟨hx, hb, hml, hown, hts, hg, hz, hz0, hlocks, -⟩ := C
  unfold o_cell at hq
  split at hq
  · next x y r =>
    obtain ⟨⟨a, ha, rfl⟩, hr4, hj, hq⟩ := hq
    have hG : GoodIn zWS (va_wsS own idx yL_cell (Cond.code yL_cell cL_cell 2 (some .int) :: zWS)) := zGood (fun w hw => by
      simp only [va_wsS, List.mem_append, List.mem_cons, List.not_mem_nil, or_false] at hw
      rcases hw with (rfl | rfl | rfl) | rfl | hw <;> assumption)
    have hpre : ∀ U : State, U.heap = H → s.WarmedH U.vm → Pcell b Ln xs a ([Value.ref b, .int (nI a)] : List Value).toArray U := fun U hU hW => ⟨rfl, by rw [hU]; exact Nat.lt_of_lt_of_le hbl hI.2.1.1, by rw [hU]; exact (hX.kept (hI.2.1.2.1 b hbl hbz)).moved hW.alike⟩
    intro T hT X
    obtain ⟨v, st₀, t2, T', Lc, g0, X', hLc, e1, e2, hqn, st9⟩ := va_runS (g := F0 m pc L ((.int (nI a) :: .retAddr y :: r).map (zc z0 b))) (H := H) (locs := locs) (cells := c0 + t.2.2.1) (slots := d0 + 6 * t.2.2.1) (e := e) (below := below) (meth := meth) (R := R) (As := [Value.ref b, .int (nI a)]) (rest := r.map (zc z0 b)) ⟨hx, hb, hml, hown, hts⟩ (vL_cell (b := b) (xs := xs) hLn ha) (va_cwS 2 hts hG rfl rfl rfl hd hR) ⟨Pcell.blind, hpre⟩ rfl rfl hL.1.1 rfl (lv_room (zrest _ hr4)) d ⟨by show c0 + t.2.2.1 + 0 ≤ R.cells; omega, by show d0 + 6 * t.2.2.1 + 6 * 0 ≤ R.slots; omega⟩ T hT X
    obtain ⟨⟨w, hw⟩, hF⟩ := hqn
    cases hw
    obtain ⟨⟨σ, ρ, hσ, hρ, hP⟩, hS, hgr⟩ := hI
    obtain ⟨k1, k2, k3⟩ := vx_keep (A1 := fun _ => False) (free := fun _ => False) g0 e1 hS (fun q _ h => False.elim h) (fun q h => False.elim h) hLc hF
    obtain ⟨t3, a1, b1⟩ := hK _ _ _ (hq w) T'.heap (locs ++ Lc) L ⟨⟨σ, ρ, hσ, hρ, hP.kept (fun i q hi => k2 q.1 (hP i q hi).lt (fun h => h))⟩, k3, Nat.le_trans hgr k1⟩ hL T' rfl X'
    exact ⟨t3, st9 t3 a1, b1⟩
  · exact hq.elim
end CELLC
