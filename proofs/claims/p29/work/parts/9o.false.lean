/-! ===== the law from every start with room enough; the witness start; the claim falls there ===== -/
def lw_P (b : Addr) (xs : List Int32) (args : Array Value) (s : State) : Prop := args = #[.ref b] ∧ s.IntsAt b xs ∧ xs.length ≤ 260 ∧ (Jvm.Cond.and given_1 narrow_1).before args s = true
def lw_Q (_ : Array Value) (s : State) (o : Outcome) (t : State) : Prop := ∃ v : Int32, o = .returned (some (.int v)) ∧ (v = 1 → s.heap.size + 182 ≤ t.heap.size)
set_option maxHeartbeats 4000000 in
theorem lw_walk (l : Launch) (hflags : l.flags = flags0) (b : Addr) (xs : List Int32) : MetFree l x (headSpec (Jvm.Cond.code x code maxLocals ret :: tables_1) rmL) (lw_P b xs) (fun _ _ _ _ _ => True) lw_Q := by
  refine MetFree.of_bodyS (code := code) (maxLocals := maxLocals) (ret := ret) (by decide) ?_ ?_
  · intro args s m h hn
    obtain ⟨meth, c, h1, h2, h3, h4, h5, h6, -, -⟩ := Cond.code_spec hn (atoms_spec (ws := Jvm.Cond.code x code maxLocals ret :: tables_1) h _ List.mem_cons_self)
    exact ⟨meth, c, h1, h2, h3, h4, h5, h6⟩
  · intro p e s m args below meth c s₁ B hml0 hP _
    obtain ⟨rfl, hx, hbd, hgv⟩ := hP
    obtain ⟨scr, harrAt, hlist, hof, hsmall⟩ := hx
    obtain ⟨hcb, hkn, -, -⟩ := State.arrayAt?_spec harrAt
    have hown : s.vm.findClass RL = some m.cls := findClass_of_methodNamed B.named
    have hts0 : ∀ c ∈ (Jvm.Cond.code x code maxLocals ret :: tables_1), c.before #[Value.ref b] s = true := atoms_spec (ws := Jvm.Cond.code x code maxLocals ret :: tables_1) B.pre
    have hts : ∀ w ∈ lw_tbl, w.before #[Value.ref b] s = true := k2_hts_sels lw_privs (fun w hw => hts0 w (List.mem_cons_of_mem _ hw)) lw_privs_ok
    have hml : c.maxLocals = 7 := B.maxLocals_eq (hts0 _ List.mem_cons_self)
    have X₀ : Stand p l e rmL s m #[Value.ref b] below meth c s₁ [] 0 0 := Stand.of_body B
    have hh0 : s₁.heap = s.heap := by rw [B.state]; rfl
    have hsz : scr.slots.size = xs.length := by rw [← Array.length_toList, hlist, List.length_map]
    have hval : ∀ j : Nat, j < xs.length → scr.slots[j]? = some (.int (xs.getD j 0)) := fun j hj => by
      rw [← Array.getElem?_toList, hlist]
      simp [hj]
    have hbl : b < s.heap.size := (Array.getElem?_eq_some_iff.mp hcb).1
    have hX : va_X b xs.length (fun j => xs.getD j 0) s s.heap := ⟨scr, hcb, hof, hkn, hsz, hval⟩
    have hlt : l.stackTraces = false := by
      unfold Launch.stackTraces
      rw [hflags]
      decide
    obtain ⟨D, cA, hG, hZ⟩ := zG_of hts hgv
    have C : zCx p l rmL s m #[Value.ref b] meth c cL_law 7 RL s.heap.size D cA 0 := ⟨B.exec, B.bytes, hml, hown, fun w hw => hts w (List.mem_filter.mp hw).1, hG, hZ, Nat.le_refl _, B.notSynchronized, hlt, Nat.zero_le _, Nat.zero_le _⟩
    have K : W p l e rmL s m #[Value.ref b] below meth c s₁.heap [] 0 0 (lwZ below s) (entryFrame m ([Value.ref b] : List Value).toArray 7) := by
      rw [hh0]
      exact law_start hlt C B.returns hX (by omega) hbl
    obtain ⟨t, a1, o, b1, b2, b3⟩ := K s₁ rfl X₀
    exact ⟨t, o, a1, b1, b2, b3⟩
theorem lw_pre_spec {args : Array Value} {s : State} (h : (Jvm.Cond.and given_1 narrow_1).before args s = true) (hr : rest_1_c.before args s = true) : ∃ (b : Addr) (xs : List Int32), lw_P b xs args s := by
  have hs := flat_of_before _ h
  have hq := flat_of_before _ hr
  have hc : (Cond.count 1).before args s = true := hs _ (by decide +kernel)
  have harr : (Cond.arrayOf (.arg 0) .int).before args s = true := hs _ (by decide +kernel)
  have hle : (Cond.le (.length (.arg 0)) (.int 260)).before args s = true := hs _ (by decide +kernel)
  have hlen : (Cond.isInt (.length (.arg 0))).before args s = true := hq _ (by decide +kernel)
  have hall : (Cond.all (.arg 0) (.isInt (.elem (.arg 0) (.index 0)))).before args s = true := hq _ (by decide +kernel)
  obtain ⟨b, xs, hb, hx⟩ := State.ints_of_pre rfl harr hlen hall
  have hsm : xs.length < 2 ^ 31 := hx.choose_spec.2.2.2
  have hev : (Term.length (.arg 0)).eval args s none [] s = some (.int xs.length.toInt32) := hx.length_eval hb
  have hv := Cond.le_ints hev (show (Term.int 260).eval args s none [] s = some (.int 260) from rfl)
  have hd : xs.length.toInt32 ≤ 260 := by
    simpa [Cond.before, Cond.holds, hv] using hle
  have hN : xs.length ≤ 260 := (Int32.ofNat_le_ofNat hsm (by decide)).mp (show Int32.ofNat xs.length ≤ Int32.ofNat 260 from hd)
  exact ⟨b, xs, Cond.one_arg hc (show args[0]? = some (.ref b) from hb), hx, hN, h⟩
/-- THE RUN FROM THE WITNESS START: it ends, it answers, and where it answers true more than 181 cells are new -/
theorem lw_run : ∃ (n : Nat) (o : Outcome), (∀ k, k < n → Within (stepsAlone start1.p0.tables start1.e0 k start1.about) Lib.HandBits.below0) ∧ (stepsAlone start1.p0.tables start1.e0 n start1.about).status = .running ∧ Ended (stepsAlone start1.p0.tables start1.e0 n start1.about) Lib.HandBits.below0 o ∧ lw_Q start1.args0 start1.about o (stepsAlone start1.p0.tables start1.e0 n start1.about) := by
  obtain ⟨-, -, hadm, -, hcas, hclk, hf, -, -, happ, -, hrest, hpre⟩ := start1.atStart
  obtain ⟨b, xs, hP⟩ := lw_pre_spec hpre hrest
  obtain ⟨a1, a2, a3, a4, a5, a6, -, a8⟩ := (Spec.appliesLoose_iff hf).mp ((Spec.applies_iff_loose hf).mp happ).1
  have happ2 : (headSpec (Jvm.Cond.code x code maxLocals ret :: tables_1) rmL).appliesLoose x start1.e0.platform start1.about = true := (Spec.appliesLoose_iff hf).mpr ⟨a1, a2, a3, a4, a5, a6, launch0.hasRoom_least _ rmL (by decide +kernel) (by decide +kernel) (by decide +kernel) (by decide +kernel) (by decide +kernel) (by decide +kernel), a8⟩
  exact lw_walk launch0 rfl b xs start1.p0 start1.e0 hadm hcas hclk start1.about ⟨0, 0⟩ start1.args0 Lib.HandBits.below0 hf happ2 hP trivial
/-- no end of such a run is as the second part of the claim asks -/
theorem lw_not {s : State} {args : Array Value} {o : Outcome} {t : State} {tb : Tables} {e : Env} (h : lw_Q args s o t) : ¬ Post_1_2 tb e args s o t := by
  rintro ⟨h1, -, -, hN⟩
  obtain ⟨v, rfl, hv⟩ := h
  have hsz : t.heap.size ≤ s.heap.size + 181 := hN.2.2.1
  by_cases h9 : v = 1
  · have := hv h9
    omega
  · have h2 : limb_1_2.after args s (.returned (some (.int v))) t = true := h1
    have h3 := Cond.after_iff.mp h2
    rw [show limb_1_2 = Cond.eq .result (.int 1) from rfl, Cond.eq_ints (x := v) (y := 1) rfl rfl] at h3
    simp at h3
    exact h9 h3
/-- THE CLAIM IS REFUTED: as the Statement itself has the refutation -/
theorem p29_refuted : RefutedClaimed_1_2 := by
  obtain ⟨n, o, h1, h2, h3, h4⟩ := lw_run
  exact ⟨launch0, start1.p0, start1.e0, start1.about, ⟨0, 0⟩, start1.args0, Lib.HandBits.below0, rfl, start1.atStart, n, o, h1, h2, h3, lw_not h4⟩
/-- so the claim is no theorem -/
theorem p29_false : ¬ Claimed_1_2 := by
  intro hC
  obtain ⟨n, o, h1, h2, h3, h4⟩ := lw_run
  obtain ⟨hl, hw, hadm, -, hcas, hclk, hf, hfit, hheap, happ, hcalls, hrest, hpre⟩ := start1.atStart
  obtain ⟨n2, o2, g1, g2, g3, g4⟩ := hC launch0 rfl hl hw start1.p0 start1.e0 hadm hcas hclk start1.about ⟨0, 0⟩ start1.args0 Lib.HandBits.below0 hf hfit hheap happ ⟨hcalls, hrest, hpre⟩
  obtain ⟨rfl, rfl⟩ := the_end_unique (f := fun k => stepsAlone start1.p0.tables start1.e0 k start1.about) h1 h3 g1 g3
  exact lw_not h4 g4
theorem p29_unprovable : ¬ (Claimed_1_1 ∧ Claimed_1_2) := fun h => p29_false h.2
