/-! ===== the law's body behind the two objects, and its end ===== -/
/-- what a run comes to: it answers, and where it answers true more than 181 cells are new -/
def lwZ (below : List Frame) (s : State) : State → Prop := fun t => ∃ o, t.status = .running ∧ Ended t below o ∧ ∃ v : Int32, o = .returned (some (.int v)) ∧ (v = 1 → s.heap.size + 182 ≤ t.heap.size)
section BODY
variable {l : Launch} {z0 b Ln : Nat} {xs : Nat → Int32} {D : va_G} {cA : Nat → ClassId} {p : Program} {e : Env} {s : State} {m : MethodId} {below : List Frame} {meth : Method} {c : Code}
theorem sL_law_426 (C : zCx p l rmL s m #[Value.ref b] meth c cL_law 7 RL z0 D cA 0) (hr : meth.sig.returnType = ret) : Snd p l e rmL s m #[Value.ref b] below meth c 7 z0 b (I2 z0 b D cA 58 s) (c2 58 2352) (lwZ below s) 426 KE := by
  intro ls st t hq H locs L hI hL T hT X
  obtain ⟨hx, hb, hml, hown, hts, hg, hz, hz0, hlocks, -⟩ := C
  unfold KE at hq
  split at hq
  · next v =>
    obtain ⟨hv, hg1, hj⟩ := hq
    have hmeth' : T.vm.method? m = some meth := X.method'
    rcases hv with rfl | rfl
    · obtain ⟨fs, hret, hrun, hended, hW, hframe⟩ := X.leave (v := some (.int 0)) (hlocks := hlocks) (fun h => by rw [hr] at h; cases h)
      refine ⟨T.setFrames fs, ?_, .returned (some (.int 0)), hrun, hended, 0, rfl, fun h => absurd h (by decide)⟩
      jvm_step X.here [X.here.top, hx, hb, dL_law_426, hmeth', hr, ret, narrow_b0]
      refine ⟨0, [], ⟨rfl, rfl⟩, fun acts => ?_⟩
      rw [narrow_b0, hret _ acts rfl rfl rfl]
      exact Steps.refl _
    · obtain ⟨fs, hret, hrun, hended, hW, hframe⟩ := X.leave (v := some (.int 1)) (hlocks := hlocks) (fun h => by rw [hr] at h; cases h)
      refine ⟨T.setFrames fs, ?_, .returned (some (.int 1)), hrun, hended, 1, rfl, fun _ => ?_⟩
      · jvm_step X.here [X.here.top, hx, hb, dL_law_426, hmeth', hr, ret, narrow_b1]
        refine ⟨1, [], ⟨rfl, rfl⟩, fun acts => ?_⟩
        rw [narrow_b1, hret _ acts rfl rfl rfl]
        exact Steps.refl _
      · show s.heap.size + 182 ≤ T.heap.size
        rw [hT]
        have h1 := hI.2.2
        have h2 := hg1 rfl
        omega
  · exact hq.elim
theorem law_body (hlt : l.stackTraces = false) (C : zCx p l rmL s m #[Value.ref b] meth c cL_law 7 RL z0 D cA 0) (hr : meth.sig.returnType = ret) (hX : va_X b Ln xs s s.heap) (hLn : Ln < 2 ^ 31) (hbl : b < s.heap.size) (hbz : ¬ z0 ≤ b) :
    AW p l e rmL s m #[Value.ref b] below meth c 7 z0 b (I2 z0 b D cA 58 s) (c2 58 2352) (lwZ below s) 16 [some (.retAddr 0), some (.ref 0), some (.ref 29), none, none, none, none] [] (zM0, zM0, 0, 0) := by
  let A : Nat → ZK QQ := fun pc ls st t => AW p l e rmL s m #[Value.ref b] below meth c 7 z0 b (I2 z0 b D cA 58 s) (c2 58 2352) (lwZ below s) pc ls st t
  have k21 : Snd p l e rmL s m #[Value.ref b] below meth c 7 z0 b (I2 z0 b D cA 58 s) (c2 58 2352) (lwZ below s) 21 (A 21) := fun _ _ _ h => h
  have k135 : Snd p l e rmL s m #[Value.ref b] below meth c 7 z0 b (I2 z0 b D cA 58 s) (c2 58 2352) (lwZ below s) 135 (A 135) := fun _ _ _ h => h
  have k426 := sL_law_426 (e := e) (below := below) C hr
  have h135 := law_2 A (fun ls st t h => sL_law_135 hlt C hX hLn hbl hbz (vL_low hlt) (vL_type hlt) (vL_does hlt) (vL_act hlt) (vL_areAlike hlt) (vL_areShownSo hlt) (vL_areRulesSo hlt) (vL_areCountedSo hlt) (vL_isUndoneSo hlt) k21 k135 k426 ls st t h)
  have h21 := law_1 A (fun ls st t h => sL_law_21 hlt C hX hLn hbl hbz (vL_low hlt) (vL_type hlt) (vL_does hlt) (vL_act hlt) (vL_areAlike hlt) (vL_areShownSo hlt) (vL_areRulesSo hlt) (vL_areCountedSo hlt) (vL_isUndoneSo hlt) k21 k135 k426 ls st t h)
    (fun bb x5 x6 μo μp j g hb hg hj => h135 90 0 bb x5 x6 μo μp j g rfl hb (fun h => ⟨(hg h).1, (hg h).2, Nat.zero_le _⟩) (by omega))
  refine sL_law_16 hlt C hX hLn hbl hbz (vL_low hlt) (vL_type hlt) (vL_does hlt) (vL_act hlt) (vL_areAlike hlt) (vL_areShownSo hlt) (vL_areRulesSo hlt) (vL_areCountedSo hlt) (vL_isUndoneSo hlt) k21 k135 k426 _ _ _ ?_
  refine ⟨(by decide : 3 < 7), (by decide : 4 < 7), ?_⟩
  exact h21 8 0 1 none none zM0 zM0 0 0 rfl (Or.inr rfl) (fun _ => ⟨rfl, mOk_0, fun t h => absurd h (by rw [show tn (mTg zM0) = 0 from rfl]; omega), Nat.zero_le _, fun h => absurd h (by omega), (by decide : tn (mRq zM0) ≤ 0)⟩) (Nat.zero_le _)
end BODY
