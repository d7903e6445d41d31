section LS
variable {σ : zTS} {μ : zMS} {xs : Nat → Int32} {Ln i j : Nat} {o : Nat → Int64} {f0 : ZH} {K : ZK ZT}
theorem nIp2 (a : Nat) : nI a + 2 = nI (a + 2) := by rw [show (2 : Int32) = nI 2 from rfl, nI_add]
theorem nIp3 (a : Nat) : nI a + 3 = nI (a + 3) := by rw [show (3 : Int32) = nI 3 from rfl, nI_add]
theorem nIp4 (a : Nat) : nI a + 4 = nI (a + 4) := by rw [show (4 : Int32) = nI 4 from rfl, nI_add]
theorem vs1 (hi : i + 5 ≤ Ln) (hLn : Ln ≤ 2560) : vp_in (nI i + 1) Ln := by rw [nI_1]; exact vp_in_nI (by omega) (by omega)
theorem vs2 (hi : i + 5 ≤ Ln) (hLn : Ln ≤ 2560) : vp_in (nI i + 2) Ln := by rw [nIp2]; exact vp_in_nI (by omega) (by omega)
theorem vs3 (hi : i + 5 ≤ Ln) (hLn : Ln ≤ 2560) : vp_in (nI i + 3) Ln := by rw [nIp3]; exact vp_in_nI (by omega) (by omega)
theorem vs4 (hi : i + 5 ≤ Ln) (hLn : Ln ≤ 2560) : vp_in (nI i + 4) Ln := by rw [nIp4]; exact vp_in_nI (by omega) (by omega)
theorem qw0 (hrel : zRel σ μ) (hi : i + 5 ≤ Ln) (hLn : Ln ≤ 2560) (hj : j ≤ 600) (hK : ∀ σ' μ' o' x5 x6 j', zRel σ' μ' → j' ≤ j + 1 → K (lsW i x5 x6) [] (zLw σ' μ' o' f0, j')) : bD0 xs Ln K (lsW i none none) [] (zLw σ μ o f0, j) := by
  obtain ⟨n, m, q, k, s, d, h9⟩ := id hrel
  refine ⟨vs1 hi hLn, (by omega : j ≤ 1000), rfl, Nat.zero_le _, (((xs (nI i + 1).toNatClampNeg).toUInt32 % 65536).toInt32), isCh_c _, σ, μ, o, f0, (gType μ (((xs (nI i + 1).toNatClampNeg).toUInt32 % 65536).toInt32)), rfl, rfl, sim_type hrel (isCh_c _), fun σ' o' hrel' ho => ?_⟩
  refine ⟨(by decide : 5 < 7), ?_⟩
  obtain ⟨fs, h29, hfs⟩ := zLw_29 (σ := σ') (μ := μ) (o := o') (f := f0)
  refine ⟨vs1 hi hLn, (by omega : j + 1 ≤ 1000), fs, h29, hfs, rfl, Nat.zero_le _, μ, _, n, m, q, k, d, (((xs (nI i + 1).toNatClampNeg).toUInt32 % 65536).toInt32), rfl, zLw_M, h9.2.1.1, isCh_c _, ?_⟩
  refine ⟨(by decide : 6 < 7), ?_⟩
  show bTI K (lsW i (some (.int (gType μ (((xs (nI i + 1).toNatClampNeg).toUInt32 % 65536).toInt32)).2.1)) (some (.int (gType μ (((xs (nI i + 1).toNatClampNeg).toUInt32 % 65536).toInt32)).1))) [] (pM (gType μ (((xs (nI i + 1).toNatClampNeg).toUInt32 % 65536).toInt32)).2 (pT σ' (pO o' f0)), j + 1)
  rw [← zLw_M]
  exact tail_I (by omega) ho (hK σ' (gType μ (((xs (nI i + 1).toNatClampNeg).toUInt32 % 65536).toInt32)).2 o' _ _ (j + 1) hrel' (Nat.le_refl _))
theorem qw1 (hrel : zRel σ μ) (hi : i + 5 ≤ Ln) (hLn : Ln ≤ 2560) (hj : j ≤ 600) (hK : ∀ σ' μ' o' x5 x6 j', zRel σ' μ' → j' ≤ j + 1 → K (lsW i x5 x6) [] (zLw σ' μ' o' f0, j')) : bD1 xs Ln K (lsW i none none) [] (zLw σ μ o f0, j) := by
  obtain ⟨n, m, q, k, s, d, h9⟩ := id hrel
  refine ⟨(by omega : j ≤ 1000), rfl, Nat.zero_le _, σ, μ, o, f0, (gEnter μ), rfl, rfl, sim_enter hrel , fun σ' o' hrel' ho => ?_⟩
  refine ⟨(by decide : 5 < 7), ?_⟩
  obtain ⟨fs, h29, hfs⟩ := zLw_29 (σ := σ') (μ := μ) (o := o') (f := f0)
  refine ⟨(by omega : j + 1 ≤ 1000), fs, h29, hfs, rfl, Nat.zero_le _, μ, _, n, m, q, k, d, rfl, zLw_M, h9.2.1.1, ?_⟩
  refine ⟨(by decide : 6 < 7), ?_⟩
  show bTI K (lsW i (some (.int (gEnter μ).2.1)) (some (.int (gEnter μ).1))) [] (pM (gEnter μ).2 (pT σ' (pO o' f0)), j + 1)
  rw [← zLw_M]
  exact tail_I (by omega) ho (hK σ' (gEnter μ).2 o' _ _ (j + 1) hrel' (Nat.le_refl _))
theorem qw2 (hrel : zRel σ μ) (hi : i + 5 ≤ Ln) (hLn : Ln ≤ 2560) (hj : j ≤ 600) (hK : ∀ σ' μ' o' x5 x6 j', zRel σ' μ' → j' ≤ j + 1 → K (lsW i x5 x6) [] (zLw σ' μ' o' f0, j')) : bD2 xs Ln K (lsW i none none) [] (zLw σ μ o f0, j) := by
  obtain ⟨n, m, q, k, s, d, h9⟩ := id hrel
  obtain ⟨e0, h2⟩ := (sim_tags hrel (pM μ (pO o f0))).2 (fun _ h => h)
  refine ⟨(by omega : j ≤ 1000), _, zLw_0 (σ := σ) (μ := μ) (o := o) (f := f0), (by show 0 < 6; decide), rfl, Nat.zero_le _, ?_⟩
  refine h2 _ (fun σ' hrel' => ?_)
  obtain ⟨fs, h29, hfs⟩ := zLw_29 (σ := σ') (μ := μ) (o := o) (f := f0)
  refine ⟨(by omega : j ≤ 1000), fs, h29, hfs, rfl, (by show 1 ≤ 4; decide), μ, _, n, m, q, k, d, rfl, zLw_M, h9.2.1.1, ⟨fun _ => ?_, fun h => absurd rfl h⟩⟩
  show K (lsW i none none) [] (pM (gTags μ).2 (pT σ' (pO o f0)), j)
  rw [← zLw_M]
  exact hK σ' (gTags μ).2 o none none j hrel' (by omega)
theorem qw3 (hrel : zRel σ μ) (hi : i + 5 ≤ Ln) (hLn : Ln ≤ 2560) (hj : j ≤ 600) (hK : ∀ σ' μ' o' x5 x6 j', zRel σ' μ' → j' ≤ j + 1 → K (lsW i x5 x6) [] (zLw σ' μ' o' f0, j')) : bD3 xs Ln K (lsW i none none) [] (zLw σ μ o f0, j) := by
  obtain ⟨n, m, q, k, s, d, h9⟩ := id hrel
  refine ⟨vs1 hi hLn, vs2 hi hLn, (by omega : j ≤ 1000), rfl, Nat.zero_le _, ((xs (nI i + 1).toNatClampNeg)), ((xs (nI i + 2).toNatClampNeg)), σ, μ, o, f0, (gLetter μ ((xs (nI i + 1).toNatClampNeg)) ((xs (nI i + 2).toNatClampNeg))), rfl, rfl, sim_letter hrel , fun σ' o' hrel' ho => ?_⟩
  refine ⟨(by decide : 5 < 7), ?_⟩
  obtain ⟨fs, h29, hfs⟩ := zLw_29 (σ := σ') (μ := μ) (o := o') (f := f0)
  refine ⟨vs1 hi hLn, vs2 hi hLn, (by omega : j + 1 ≤ 1000), fs, h29, hfs, rfl, Nat.zero_le _, μ, _, n, m, q, k, d, ((xs (nI i + 1).toNatClampNeg)), ((xs (nI i + 2).toNatClampNeg)), rfl, zLw_M, h9.2.1.1, ?_⟩
  refine ⟨(by decide : 6 < 7), ?_⟩
  show bTI K (lsW i (some (.int (gLetter μ ((xs (nI i + 1).toNatClampNeg)) ((xs (nI i + 2).toNatClampNeg))).2.1)) (some (.int (gLetter μ ((xs (nI i + 1).toNatClampNeg)) ((xs (nI i + 2).toNatClampNeg))).1))) [] (pM (gLetter μ ((xs (nI i + 1).toNatClampNeg)) ((xs (nI i + 2).toNatClampNeg))).2 (pT σ' (pO o' f0)), j + 1)
  rw [← zLw_M]
  exact tail_I (by omega) ho (hK σ' (gLetter μ ((xs (nI i + 1).toNatClampNeg)) ((xs (nI i + 2).toNatClampNeg))).2 o' _ _ (j + 1) hrel' (Nat.le_refl _))
theorem qw4 (hrel : zRel σ μ) (hi : i + 5 ≤ Ln) (hLn : Ln ≤ 2560) (hj : j ≤ 600) (hK : ∀ σ' μ' o' x5 x6 j', zRel σ' μ' → j' ≤ j + 1 → K (lsW i x5 x6) [] (zLw σ' μ' o' f0, j')) : bD4 xs Ln K (lsW i none none) [] (zLw σ μ o f0, j) := by
  obtain ⟨n, m, q, k, s, d, h9⟩ := id hrel
  refine ⟨(by omega : j ≤ 1000), rfl, Nat.zero_le _, σ, μ, o, f0, (gAddThing μ), rfl, rfl, sim_addThing hrel , fun σ' o' hrel' ho => ?_⟩
  refine ⟨(by decide : 5 < 7), ?_⟩
  obtain ⟨fs, h29, hfs⟩ := zLw_29 (σ := σ') (μ := μ) (o := o') (f := f0)
  refine ⟨(by omega : j + 1 ≤ 1000), fs, h29, hfs, rfl, Nat.zero_le _, μ, _, n, m, q, k, d, rfl, zLw_M, h9.2.1.1, ?_⟩
  refine ⟨(by decide : 6 < 7), ?_⟩
  show bTI K (lsW i (some (.int (gAddThing μ).2.1)) (some (.int (gAddThing μ).1))) [] (pM (gAddThing μ).2 (pT σ' (pO o' f0)), j + 1)
  rw [← zLw_M]
  exact tail_I (by omega) ho (hK σ' (gAddThing μ).2 o' _ _ (j + 1) hrel' (Nat.le_refl _))
theorem qw5 (hrel : zRel σ μ) (hi : i + 5 ≤ Ln) (hLn : Ln ≤ 2560) (hj : j ≤ 600) (hK : ∀ σ' μ' o' x5 x6 j', zRel σ' μ' → j' ≤ j + 1 → K (lsW i x5 x6) [] (zLw σ' μ' o' f0, j')) : bD5 xs Ln K (lsW i none none) [] (zLw σ μ o f0, j) := by
  obtain ⟨n, m, q, k, s, d, h9⟩ := id hrel
  obtain ⟨e0, h2⟩ := (sim_things hrel (pM μ (pO o f0))).2 (fun _ h => h)
  refine ⟨(by omega : j ≤ 1000), _, zLw_0 (σ := σ) (μ := μ) (o := o) (f := f0), (by show 0 < 6; decide), rfl, Nat.zero_le _, ?_⟩
  refine h2 _ (fun σ' hrel' => ?_)
  obtain ⟨fs, h29, hfs⟩ := zLw_29 (σ := σ') (μ := μ) (o := o) (f := f0)
  refine ⟨(by omega : j ≤ 1000), fs, h29, hfs, rfl, (by show 1 ≤ 4; decide), μ, _, n, m, q, k, d, rfl, zLw_M, h9.2.1.1, ⟨fun _ => ?_, fun h => absurd rfl h⟩⟩
  show K (lsW i none none) [] (pM (gThings μ).2 (pT σ' (pO o f0)), j)
  rw [← zLw_M]
  exact hK σ' (gThings μ).2 o none none j hrel' (by omega)
theorem qw6 (hrel : zRel σ μ) (hi : i + 5 ≤ Ln) (hLn : Ln ≤ 2560) (hj : j ≤ 600) (hK : ∀ σ' μ' o' x5 x6 j', zRel σ' μ' → j' ≤ j + 1 → K (lsW i x5 x6) [] (zLw σ' μ' o' f0, j')) : bD6 xs Ln K (lsW i none none) [] (zLw σ μ o f0, j) := by
  obtain ⟨n, m, q, k, s, d, h9⟩ := id hrel
  refine ⟨vs1 hi hLn, vs2 hi hLn, (by omega : j ≤ 1000), rfl, Nat.zero_le _, ((xs (nI i + 1).toNatClampNeg)), ((xs (nI i + 2).toNatClampNeg)), σ, μ, o, f0, (gTag μ ((xs (nI i + 1).toNatClampNeg)) ((xs (nI i + 2).toNatClampNeg))), rfl, rfl, sim_tag hrel , fun σ' o' hrel' ho => ?_⟩
  refine ⟨(by decide : 5 < 7), ?_⟩
  obtain ⟨fs, h29, hfs⟩ := zLw_29 (σ := σ') (μ := μ) (o := o') (f := f0)
  refine ⟨vs1 hi hLn, vs2 hi hLn, (by omega : j + 1 ≤ 1000), fs, h29, hfs, rfl, Nat.zero_le _, μ, _, n, m, q, k, d, ((xs (nI i + 1).toNatClampNeg)), ((xs (nI i + 2).toNatClampNeg)), rfl, zLw_M, h9.2.1.1, ?_⟩
  refine ⟨(by decide : 6 < 7), ?_⟩
  show bTB K (lsW i (some (.int (gTag μ ((xs (nI i + 1).toNatClampNeg)) ((xs (nI i + 2).toNatClampNeg))).2.1)) (some (.int (gTag μ ((xs (nI i + 1).toNatClampNeg)) ((xs (nI i + 2).toNatClampNeg))).1))) [] (pM (gTag μ ((xs (nI i + 1).toNatClampNeg)) ((xs (nI i + 2).toNatClampNeg))).2 (pT σ' (pO o' f0)), j + 1)
  rw [← zLw_M]
  exact tail_B (by omega) ho (hK σ' (gTag μ ((xs (nI i + 1).toNatClampNeg)) ((xs (nI i + 2).toNatClampNeg))).2 o' _ _ (j + 1) hrel' (Nat.le_refl _))
theorem qw7 (hrel : zRel σ μ) (hi : i + 5 ≤ Ln) (hLn : Ln ≤ 2560) (hj : j ≤ 600) (hK : ∀ σ' μ' o' x5 x6 j', zRel σ' μ' → j' ≤ j + 1 → K (lsW i x5 x6) [] (zLw σ' μ' o' f0, j')) : bD7 xs Ln K (lsW i none none) [] (zLw σ μ o f0, j) := by
  obtain ⟨n, m, q, k, s, d, h9⟩ := id hrel
  refine ⟨vs1 hi hLn, vs2 hi hLn, (by omega : j ≤ 1000), rfl, Nat.zero_le _, ((xs (nI i + 1).toNatClampNeg)), ((xs (nI i + 2).toNatClampNeg)), σ, μ, o, f0, (gUntag μ ((xs (nI i + 1).toNatClampNeg)) ((xs (nI i + 2).toNatClampNeg))), rfl, rfl, sim_untag hrel , fun σ' o' hrel' ho => ?_⟩
  refine ⟨(by decide : 5 < 7), ?_⟩
  obtain ⟨fs, h29, hfs⟩ := zLw_29 (σ := σ') (μ := μ) (o := o') (f := f0)
  refine ⟨vs1 hi hLn, vs2 hi hLn, (by omega : j + 1 ≤ 1000), fs, h29, hfs, rfl, Nat.zero_le _, μ, _, n, m, q, k, d, ((xs (nI i + 1).toNatClampNeg)), ((xs (nI i + 2).toNatClampNeg)), rfl, zLw_M, h9.2.1.1, ?_⟩
  refine ⟨(by decide : 6 < 7), ?_⟩
  show bTB K (lsW i (some (.int (gUntag μ ((xs (nI i + 1).toNatClampNeg)) ((xs (nI i + 2).toNatClampNeg))).2.1)) (some (.int (gUntag μ ((xs (nI i + 1).toNatClampNeg)) ((xs (nI i + 2).toNatClampNeg))).1))) [] (pM (gUntag μ ((xs (nI i + 1).toNatClampNeg)) ((xs (nI i + 2).toNatClampNeg))).2 (pT σ' (pO o' f0)), j + 1)
  rw [← zLw_M]
  exact tail_B (by omega) ho (hK σ' (gUntag μ ((xs (nI i + 1).toNatClampNeg)) ((xs (nI i + 2).toNatClampNeg))).2 o' _ _ (j + 1) hrel' (Nat.le_refl _))
theorem qw8 (hrel : zRel σ μ) (hi : i + 5 ≤ Ln) (hLn : Ln ≤ 2560) (hj : j ≤ 600) (hK : ∀ σ' μ' o' x5 x6 j', zRel σ' μ' → j' ≤ j + 1 → K (lsW i x5 x6) [] (zLw σ' μ' o' f0, j')) : bD8 xs Ln K (lsW i none none) [] (zLw σ μ o f0, j) := by
  obtain ⟨n, m, q, k, s, d, h9⟩ := id hrel
  refine ⟨vs1 hi hLn, vs2 hi hLn, vs3 hi hLn, (by omega : j ≤ 1000), rfl, Nat.zero_le _, ((xs (nI i + 1).toNatClampNeg)), ((xs (nI i + 2).toNatClampNeg)), ((xs (nI i + 3).toNatClampNeg)), σ, μ, o, f0, (gMass μ ((xs (nI i + 1).toNatClampNeg)) ((xs (nI i + 2).toNatClampNeg)) ((xs (nI i + 3).toNatClampNeg))), rfl, rfl, sim_mass hrel , fun σ' o' hrel' ho => ?_⟩
  refine ⟨(by decide : 5 < 7), ?_⟩
  obtain ⟨fs, h29, hfs⟩ := zLw_29 (σ := σ') (μ := μ) (o := o') (f := f0)
  refine ⟨vs1 hi hLn, vs2 hi hLn, vs3 hi hLn, (by omega : j + 1 ≤ 1000), fs, h29, hfs, rfl, Nat.zero_le _, μ, _, n, m, q, k, d, ((xs (nI i + 1).toNatClampNeg)), ((xs (nI i + 2).toNatClampNeg)), ((xs (nI i + 3).toNatClampNeg)), rfl, zLw_M, h9.2.1.1, ?_⟩
  refine ⟨(by decide : 6 < 7), ?_⟩
  show bTI K (lsW i (some (.int (gMass μ ((xs (nI i + 1).toNatClampNeg)) ((xs (nI i + 2).toNatClampNeg)) ((xs (nI i + 3).toNatClampNeg))).2.1)) (some (.int (gMass μ ((xs (nI i + 1).toNatClampNeg)) ((xs (nI i + 2).toNatClampNeg)) ((xs (nI i + 3).toNatClampNeg))).1))) [] (pM (gMass μ ((xs (nI i + 1).toNatClampNeg)) ((xs (nI i + 2).toNatClampNeg)) ((xs (nI i + 3).toNatClampNeg))).2 (pT σ' (pO o' f0)), j + 1)
  rw [← zLw_M]
  exact tail_I (by omega) ho (hK σ' (gMass μ ((xs (nI i + 1).toNatClampNeg)) ((xs (nI i + 2).toNatClampNeg)) ((xs (nI i + 3).toNatClampNeg))).2 o' _ _ (j + 1) hrel' (Nat.le_refl _))
theorem qw9 (hrel : zRel σ μ) (hi : i + 5 ≤ Ln) (hLn : Ln ≤ 2560) (hj : j ≤ 600) (hK : ∀ σ' μ' o' x5 x6 j', zRel σ' μ' → j' ≤ j + 1 → K (lsW i x5 x6) [] (zLw σ' μ' o' f0, j')) : bD9 xs Ln K (lsW i none none) [] (zLw σ μ o f0, j) := by
  obtain ⟨n, m, q, k, s, d, h9⟩ := id hrel
  refine ⟨(by omega : j ≤ 1000), rfl, Nat.zero_le _, σ, μ, o, f0, (gUndo μ), rfl, rfl, sim_undo hrel , fun σ' o' hrel' ho => ?_⟩
  refine ⟨(by decide : 5 < 7), ?_⟩
  obtain ⟨fs, h29, hfs⟩ := zLw_29 (σ := σ') (μ := μ) (o := o') (f := f0)
  refine ⟨(by omega : j + 1 ≤ 1000), fs, h29, hfs, rfl, Nat.zero_le _, μ, _, n, m, q, k, d, rfl, zLw_M, h9.2.1.1, ?_⟩
  refine ⟨(by decide : 6 < 7), ?_⟩
  show bTI K (lsW i (some (.int (gUndo μ).2.1)) (some (.int (gUndo μ).1))) [] (pM (gUndo μ).2 (pT σ' (pO o' f0)), j + 1)
  rw [← zLw_M]
  exact tail_I (by omega) ho (hK σ' (gUndo μ).2 o' _ _ (j + 1) hrel' (Nat.le_refl _))
theorem qw10 (hrel : zRel σ μ) (hi : i + 5 ≤ Ln) (hLn : Ln ≤ 2560) (hj : j ≤ 600) (hK : ∀ σ' μ' o' x5 x6 j', zRel σ' μ' → j' ≤ j + 1 → K (lsW i x5 x6) [] (zLw σ' μ' o' f0, j')) : bD10 xs Ln K (lsW i none none) [] (zLw σ μ o f0, j) := by
  obtain ⟨n, m, q, k, s, d, h9⟩ := id hrel
  obtain ⟨e0, h2⟩ := (sim_kept hrel (pM μ (pO o f0))).2 (fun _ h => h)
  refine ⟨(by omega : j ≤ 1000), _, zLw_0 (σ := σ) (μ := μ) (o := o) (f := f0), (by show 0 < 6; decide), rfl, Nat.zero_le _, ?_⟩
  refine h2 _ (fun σ' hrel' => ?_)
  obtain ⟨fs, h29, hfs⟩ := zLw_29 (σ := σ') (μ := μ) (o := o) (f := f0)
  refine ⟨(by omega : j ≤ 1000), fs, h29, hfs, rfl, (by show 1 ≤ 4; decide), μ, _, n, m, q, k, d, rfl, zLw_M, h9.2.1.1, ⟨fun _ => ?_, fun h => absurd rfl h⟩⟩
  show K (lsW i none none) [] (pM (gKept μ).2 (pT σ' (pO o f0)), j)
  rw [← zLw_M]
  exact hK σ' (gKept μ).2 o none none j hrel' (by omega)
theorem qw11 (hrel : zRel σ μ) (hi : i + 5 ≤ Ln) (hLn : Ln ≤ 2560) (hj : j ≤ 600) (hK : ∀ σ' μ' o' x5 x6 j', zRel σ' μ' → j' ≤ j + 1 → K (lsW i x5 x6) [] (zLw σ' μ' o' f0, j')) : bD11 xs Ln K (lsW i none none) [] (zLw σ μ o f0, j) := by
  obtain ⟨n, m, q, k, s, d, h9⟩ := id hrel
  refine ⟨vs1 hi hLn, (by omega : j ≤ 1000), rfl, Nat.zero_le _, ((xs (nI i + 1).toNatClampNeg)), σ, μ, o, f0, (gHand μ ((xs (nI i + 1).toNatClampNeg))), rfl, rfl, sim_hand hrel , fun σ' o' hrel' ho => ?_⟩
  refine ⟨(by decide : 5 < 7), ?_⟩
  obtain ⟨fs, h29, hfs⟩ := zLw_29 (σ := σ') (μ := μ) (o := o') (f := f0)
  refine ⟨vs1 hi hLn, (by omega : j + 1 ≤ 1000), fs, h29, hfs, rfl, Nat.zero_le _, μ, _, n, m, q, k, d, ((xs (nI i + 1).toNatClampNeg)), rfl, zLw_M, h9.2.1.1, ?_⟩
  refine ⟨(by decide : 6 < 7), ?_⟩
  show bTI K (lsW i (some (.int (gHand μ ((xs (nI i + 1).toNatClampNeg))).2.1)) (some (.int (gHand μ ((xs (nI i + 1).toNatClampNeg))).1))) [] (pM (gHand μ ((xs (nI i + 1).toNatClampNeg))).2 (pT σ' (pO o' f0)), j + 1)
  rw [← zLw_M]
  exact tail_I (by omega) ho (hK σ' (gHand μ ((xs (nI i + 1).toNatClampNeg))).2 o' _ _ (j + 1) hrel' (Nat.le_refl _))
theorem qw12 (hrel : zRel σ μ) (hi : i + 5 ≤ Ln) (hLn : Ln ≤ 2560) (hj : j ≤ 600) (hK : ∀ σ' μ' o' x5 x6 j', zRel σ' μ' → j' ≤ j + 1 → K (lsW i x5 x6) [] (zLw σ' μ' o' f0, j')) : bD12 xs Ln K (lsW i none none) [] (zLw σ μ o f0, j) := by
  obtain ⟨n, m, q, k, s, d, h9⟩ := id hrel
  refine ⟨vs1 hi hLn, vs2 hi hLn, vs3 hi hLn, (by omega : j ≤ 1000), rfl, Nat.zero_le _, ((xs (nI i + 1).toNatClampNeg)), ((xs (nI i + 2).toNatClampNeg)), ((xs (nI i + 3).toNatClampNeg)), σ, μ, o, f0, (gAsk μ ((xs (nI i + 1).toNatClampNeg)) ((xs (nI i + 2).toNatClampNeg)) ((xs (nI i + 3).toNatClampNeg))), rfl, rfl, sim_ask hrel , fun σ' o' hrel' ho => ?_⟩
  refine ⟨(by decide : 5 < 7), ?_⟩
  obtain ⟨fs, h29, hfs⟩ := zLw_29 (σ := σ') (μ := μ) (o := o') (f := f0)
  refine ⟨vs1 hi hLn, vs2 hi hLn, vs3 hi hLn, (by omega : j + 1 ≤ 1000), fs, h29, hfs, rfl, Nat.zero_le _, μ, _, n, m, q, k, d, ((xs (nI i + 1).toNatClampNeg)), ((xs (nI i + 2).toNatClampNeg)), ((xs (nI i + 3).toNatClampNeg)), rfl, zLw_M, h9.2.1.1, ?_⟩
  refine ⟨(by decide : 6 < 7), ?_⟩
  show bTI K (lsW i (some (.int (gAsk μ ((xs (nI i + 1).toNatClampNeg)) ((xs (nI i + 2).toNatClampNeg)) ((xs (nI i + 3).toNatClampNeg))).2.1)) (some (.int (gAsk μ ((xs (nI i + 1).toNatClampNeg)) ((xs (nI i + 2).toNatClampNeg)) ((xs (nI i + 3).toNatClampNeg))).1))) [] (pM (gAsk μ ((xs (nI i + 1).toNatClampNeg)) ((xs (nI i + 2).toNatClampNeg)) ((xs (nI i + 3).toNatClampNeg))).2 (pT σ' (pO o' f0)), j + 1)
  rw [← zLw_M]
  exact tail_I (by omega) ho (hK σ' (gAsk μ ((xs (nI i + 1).toNatClampNeg)) ((xs (nI i + 2).toNatClampNeg)) ((xs (nI i + 3).toNatClampNeg))).2 o' _ _ (j + 1) hrel' (Nat.le_refl _))
theorem qw13 (hrel : zRel σ μ) (hi : i + 5 ≤ Ln) (hLn : Ln ≤ 2560) (hj : j ≤ 600) (hK : ∀ σ' μ' o' x5 x6 j', zRel σ' μ' → j' ≤ j + 1 → K (lsW i x5 x6) [] (zLw σ' μ' o' f0, j')) : bD13 xs Ln K (lsW i none none) [] (zLw σ μ o f0, j) := by
  obtain ⟨n, m, q, k, s, d, h9⟩ := id hrel
  refine ⟨vs1 hi hLn, vs2 hi hLn, vs3 hi hLn, fun hz => ?_, fun hz => ?_⟩
  · skip
    refine ⟨(by omega : j ≤ 1000), rfl, Nat.zero_le _, ((xs (nI i + 1).toNatClampNeg)), ((xs (nI i + 2).toNatClampNeg)), (false), σ, μ, o, f0, (gVote μ ((xs (nI i + 1).toNatClampNeg)) ((xs (nI i + 2).toNatClampNeg)) (false)), rfl, rfl, sim_vote hrel , fun σ' o' hrel' ho => ?_⟩
    refine ⟨(by decide : 5 < 7), ?_⟩
    obtain ⟨fs, h29, hfs⟩ := zLw_29 (σ := σ') (μ := μ) (o := o') (f := f0)
    refine ⟨vs1 hi hLn, vs2 hi hLn, vs3 hi hLn, fun _ => ⟨(by omega : j + 1 ≤ 1000), fs, h29, hfs, rfl, Nat.zero_le _, μ, _, n, m, q, k, d, ((xs (nI i + 1).toNatClampNeg)), ((xs (nI i + 2).toNatClampNeg)), (false), rfl, zLw_M, h9.2.1.1, ?_⟩, fun h => absurd hz h⟩
    refine ⟨(by decide : 6 < 7), ?_⟩
    show bTI K (lsW i (some (.int (gVote μ ((xs (nI i + 1).toNatClampNeg)) ((xs (nI i + 2).toNatClampNeg)) (false)).2.1)) (some (.int (gVote μ ((xs (nI i + 1).toNatClampNeg)) ((xs (nI i + 2).toNatClampNeg)) (false)).1))) [] (pM (gVote μ ((xs (nI i + 1).toNatClampNeg)) ((xs (nI i + 2).toNatClampNeg)) (false)).2 (pT σ' (pO o' f0)), j + 1)
    rw [← zLw_M]
    exact tail_I (by omega) ho (hK σ' (gVote μ ((xs (nI i + 1).toNatClampNeg)) ((xs (nI i + 2).toNatClampNeg)) (false)).2 o' _ _ (j + 1) hrel' (Nat.le_refl _))
  · skip
    refine ⟨(by omega : j ≤ 1000), rfl, Nat.zero_le _, ((xs (nI i + 1).toNatClampNeg)), ((xs (nI i + 2).toNatClampNeg)), (true), σ, μ, o, f0, (gVote μ ((xs (nI i + 1).toNatClampNeg)) ((xs (nI i + 2).toNatClampNeg)) (true)), rfl, rfl, sim_vote hrel , fun σ' o' hrel' ho => ?_⟩
    refine ⟨(by decide : 5 < 7), ?_⟩
    obtain ⟨fs, h29, hfs⟩ := zLw_29 (σ := σ') (μ := μ) (o := o') (f := f0)
    refine ⟨vs1 hi hLn, vs2 hi hLn, vs3 hi hLn, fun h => absurd h hz, fun _ => ⟨(by omega : j + 1 ≤ 1000), fs, h29, hfs, rfl, Nat.zero_le _, μ, _, n, m, q, k, d, ((xs (nI i + 1).toNatClampNeg)), ((xs (nI i + 2).toNatClampNeg)), (true), rfl, zLw_M, h9.2.1.1, ?_⟩⟩
    refine ⟨(by decide : 6 < 7), ?_⟩
    show bTI K (lsW i (some (.int (gVote μ ((xs (nI i + 1).toNatClampNeg)) ((xs (nI i + 2).toNatClampNeg)) (true)).2.1)) (some (.int (gVote μ ((xs (nI i + 1).toNatClampNeg)) ((xs (nI i + 2).toNatClampNeg)) (true)).1))) [] (pM (gVote μ ((xs (nI i + 1).toNatClampNeg)) ((xs (nI i + 2).toNatClampNeg)) (true)).2 (pT σ' (pO o' f0)), j + 1)
    rw [← zLw_M]
    exact tail_I (by omega) ho (hK σ' (gVote μ ((xs (nI i + 1).toNatClampNeg)) ((xs (nI i + 2).toNatClampNeg)) (true)).2 o' _ _ (j + 1) hrel' (Nat.le_refl _))
theorem qw14 (hrel : zRel σ μ) (hi : i + 5 ≤ Ln) (hLn : Ln ≤ 2560) (hj : j ≤ 600) (hK : ∀ σ' μ' o' x5 x6 j', zRel σ' μ' → j' ≤ j + 1 → K (lsW i x5 x6) [] (zLw σ' μ' o' f0, j')) : bD14 xs Ln K (lsW i none none) [] (zLw σ μ o f0, j) := by
  obtain ⟨n, m, q, k, s, d, h9⟩ := id hrel
  refine ⟨vs1 hi hLn, (by omega : j ≤ 1000), rfl, Nat.zero_le _, ((xs (nI i + 1).toNatClampNeg)), σ, μ, o, f0, (gStanding μ ((xs (nI i + 1).toNatClampNeg))), rfl, rfl, sim_standing hrel , fun σ' o' hrel' ho => ?_⟩
  refine ⟨(by decide : 5 < 7), ?_⟩
  obtain ⟨fs, h29, hfs⟩ := zLw_29 (σ := σ') (μ := μ) (o := o') (f := f0)
  refine ⟨vs1 hi hLn, (by omega : j + 1 ≤ 1000), fs, h29, hfs, rfl, Nat.zero_le _, μ, _, n, m, q, k, d, ((xs (nI i + 1).toNatClampNeg)), rfl, zLw_M, h9.2.1.1, ?_⟩
  refine ⟨(by decide : 6 < 7), ?_⟩
  show bTI K (lsW i (some (.int (gStanding μ ((xs (nI i + 1).toNatClampNeg))).2.1)) (some (.int (gStanding μ ((xs (nI i + 1).toNatClampNeg))).1))) [] (pM (gStanding μ ((xs (nI i + 1).toNatClampNeg))).2 (pT σ' (pO o' f0)), j + 1)
  rw [← zLw_M]
  exact tail_I (by omega) ho (hK σ' (gStanding μ ((xs (nI i + 1).toNatClampNeg))).2 o' _ _ (j + 1) hrel' (Nat.le_refl _))
theorem qw15 (hrel : zRel σ μ) (hi : i + 5 ≤ Ln) (hLn : Ln ≤ 2560) (hj : j ≤ 600) (hK : ∀ σ' μ' o' x5 x6 j', zRel σ' μ' → j' ≤ j + 1 → K (lsW i x5 x6) [] (zLw σ' μ' o' f0, j')) : bD15 xs Ln K (lsW i none none) [] (zLw σ μ o f0, j) := by
  obtain ⟨n, m, q, k, s, d, h9⟩ := id hrel
  refine ⟨vs1 hi hLn, (by omega : j ≤ 1000), rfl, Nat.zero_le _, ((xs (nI i + 1).toNatClampNeg)), σ, μ, o, f0, (gCouldPass μ ((xs (nI i + 1).toNatClampNeg))), rfl, rfl, sim_couldPass hrel , fun σ' o' hrel' ho => ?_⟩
  refine ⟨(by decide : 5 < 7), ?_⟩
  obtain ⟨fs, h29, hfs⟩ := zLw_29 (σ := σ') (μ := μ) (o := o') (f := f0)
  refine ⟨vs1 hi hLn, (by omega : j + 1 ≤ 1000), fs, h29, hfs, rfl, Nat.zero_le _, μ, _, n, m, q, k, d, ((xs (nI i + 1).toNatClampNeg)), rfl, zLw_M, h9.2.1.1, ?_⟩
  refine ⟨(by decide : 6 < 7), ?_⟩
  show bTB K (lsW i (some (.int (gCouldPass μ ((xs (nI i + 1).toNatClampNeg))).2.1)) (some (.int (gCouldPass μ ((xs (nI i + 1).toNatClampNeg))).1))) [] (pM (gCouldPass μ ((xs (nI i + 1).toNatClampNeg))).2 (pT σ' (pO o' f0)), j + 1)
  rw [← zLw_M]
  exact tail_B (by omega) ho (hK σ' (gCouldPass μ ((xs (nI i + 1).toNatClampNeg))).2 o' _ _ (j + 1) hrel' (Nat.le_refl _))
theorem qw16 (hrel : zRel σ μ) (hi : i + 5 ≤ Ln) (hLn : Ln ≤ 2560) (hj : j ≤ 600) (hK : ∀ σ' μ' o' x5 x6 j', zRel σ' μ' → j' ≤ j + 1 → K (lsW i x5 x6) [] (zLw σ' μ' o' f0, j')) : bD16 xs Ln K (lsW i none none) [] (zLw σ μ o f0, j) := by
  obtain ⟨n, m, q, k, s, d, h9⟩ := id hrel
  refine ⟨vs1 hi hLn, (by omega : j ≤ 1000), rfl, Nat.zero_le _, ((xs (nI i + 1).toNatClampNeg)), σ, μ, o, f0, (gClashes μ ((xs (nI i + 1).toNatClampNeg))), rfl, rfl, sim_clashes hrel , fun σ' o' hrel' ho => ?_⟩
  refine ⟨(by decide : 5 < 7), ?_⟩
  obtain ⟨fs, h29, hfs⟩ := zLw_29 (σ := σ') (μ := μ) (o := o') (f := f0)
  refine ⟨vs1 hi hLn, (by omega : j + 1 ≤ 1000), fs, h29, hfs, rfl, Nat.zero_le _, μ, _, n, m, q, k, d, ((xs (nI i + 1).toNatClampNeg)), rfl, zLw_M, h9.2.1.1, ?_⟩
  refine ⟨(by decide : 6 < 7), ?_⟩
  show bTI K (lsW i (some (.int (gClashes μ ((xs (nI i + 1).toNatClampNeg))).2.1)) (some (.int (gClashes μ ((xs (nI i + 1).toNatClampNeg))).1))) [] (pM (gClashes μ ((xs (nI i + 1).toNatClampNeg))).2 (pT σ' (pO o' f0)), j + 1)
  rw [← zLw_M]
  exact tail_I (by omega) ho (hK σ' (gClashes μ ((xs (nI i + 1).toNatClampNeg))).2 o' _ _ (j + 1) hrel' (Nat.le_refl _))
theorem qw17 (hrel : zRel σ μ) (hi : i + 5 ≤ Ln) (hLn : Ln ≤ 2560) (hj : j ≤ 600) (hK : ∀ σ' μ' o' x5 x6 j', zRel σ' μ' → j' ≤ j + 1 → K (lsW i x5 x6) [] (zLw σ' μ' o' f0, j')) : bD17 xs Ln K (lsW i none none) [] (zLw σ μ o f0, j) := by
  obtain ⟨n, m, q, k, s, d, h9⟩ := id hrel
  refine ⟨vs1 hi hLn, (by omega : j ≤ 1000), rfl, Nat.zero_le _, ((xs (nI i + 1).toNatClampNeg)), σ, μ, o, f0, (gAlias μ ((xs (nI i + 1).toNatClampNeg))), rfl, rfl, sim_alias hrel , fun σ' o' hrel' ho => ?_⟩
  refine ⟨(by decide : 5 < 7), ?_⟩
  obtain ⟨fs, h29, hfs⟩ := zLw_29 (σ := σ') (μ := μ) (o := o') (f := f0)
  refine ⟨vs1 hi hLn, (by omega : j + 1 ≤ 1000), fs, h29, hfs, rfl, Nat.zero_le _, μ, _, n, m, q, k, d, ((xs (nI i + 1).toNatClampNeg)), rfl, zLw_M, h9.2.1.1, ?_⟩
  refine ⟨(by decide : 6 < 7), ?_⟩
  show bTI K (lsW i (some (.int (gAlias μ ((xs (nI i + 1).toNatClampNeg))).2.1)) (some (.int (gAlias μ ((xs (nI i + 1).toNatClampNeg))).1))) [] (pM (gAlias μ ((xs (nI i + 1).toNatClampNeg))).2 (pT σ' (pO o' f0)), j + 1)
  rw [← zLw_M]
  exact tail_I (by omega) ho (hK σ' (gAlias μ ((xs (nI i + 1).toNatClampNeg))).2 o' _ _ (j + 1) hrel' (Nat.le_refl _))
theorem qw18 (hrel : zRel σ μ) (hi : i + 5 ≤ Ln) (hLn : Ln ≤ 2560) (hj : j ≤ 600) (hK : ∀ σ' μ' o' x5 x6 j', zRel σ' μ' → j' ≤ j + 1 → K (lsW i x5 x6) [] (zLw σ' μ' o' f0, j')) : bD18 xs Ln K (lsW i none none) [] (zLw σ μ o f0, j) := by
  obtain ⟨n, m, q, k, s, d, h9⟩ := id hrel
  refine ⟨vs1 hi hLn, (by omega : j ≤ 1000), rfl, Nat.zero_le _, ((xs (nI i + 1).toNatClampNeg)), σ, μ, o, f0, (gEnd μ ((xs (nI i + 1).toNatClampNeg))), rfl, rfl, sim_end hrel , fun σ' o' hrel' ho => ?_⟩
  refine ⟨(by decide : 5 < 7), ?_⟩
  obtain ⟨fs, h29, hfs⟩ := zLw_29 (σ := σ') (μ := μ) (o := o') (f := f0)
  refine ⟨vs1 hi hLn, (by omega : j + 1 ≤ 1000), fs, h29, hfs, rfl, Nat.zero_le _, μ, _, n, m, q, k, d, ((xs (nI i + 1).toNatClampNeg)), rfl, zLw_M, h9.2.1.1, ?_⟩
  refine ⟨(by decide : 6 < 7), ?_⟩
  show bTI K (lsW i (some (.int (gEnd μ ((xs (nI i + 1).toNatClampNeg))).2.1)) (some (.int (gEnd μ ((xs (nI i + 1).toNatClampNeg))).1))) [] (pM (gEnd μ ((xs (nI i + 1).toNatClampNeg))).2 (pT σ' (pO o' f0)), j + 1)
  rw [← zLw_M]
  exact tail_I (by omega) ho (hK σ' (gEnd μ ((xs (nI i + 1).toNatClampNeg))).2 o' _ _ (j + 1) hrel' (Nat.le_refl _))
theorem qw19 (hrel : zRel σ μ) (hi : i + 5 ≤ Ln) (hLn : Ln ≤ 2560) (hj : j ≤ 600) (hK : ∀ σ' μ' o' x5 x6 j', zRel σ' μ' → j' ≤ j + 1 → K (lsW i x5 x6) [] (zLw σ' μ' o' f0, j')) : bD19 xs Ln K (lsW i none none) [] (zLw σ μ o f0, j) := by
  obtain ⟨n, m, q, k, s, d, h9⟩ := id hrel
  refine ⟨vs1 hi hLn, vs2 hi hLn, (by omega : j ≤ 1000), rfl, Nat.zero_le _, ((xs (nI i + 1).toNatClampNeg)), ((xs (nI i + 2).toNatClampNeg)), σ, μ, o, f0, (gImplies μ ((xs (nI i + 1).toNatClampNeg)) ((xs (nI i + 2).toNatClampNeg))), rfl, rfl, sim_implies hrel , fun σ' o' hrel' ho => ?_⟩
  refine ⟨(by decide : 5 < 7), ?_⟩
  obtain ⟨fs, h29, hfs⟩ := zLw_29 (σ := σ') (μ := μ) (o := o') (f := f0)
  refine ⟨vs1 hi hLn, vs2 hi hLn, (by omega : j + 1 ≤ 1000), fs, h29, hfs, rfl, Nat.zero_le _, μ, _, n, m, q, k, d, ((xs (nI i + 1).toNatClampNeg)), ((xs (nI i + 2).toNatClampNeg)), rfl, zLw_M, h9.2.1.1, ?_⟩
  refine ⟨(by decide : 6 < 7), ?_⟩
  show bTB K (lsW i (some (.int (gImplies μ ((xs (nI i + 1).toNatClampNeg)) ((xs (nI i + 2).toNatClampNeg))).2.1)) (some (.int (gImplies μ ((xs (nI i + 1).toNatClampNeg)) ((xs (nI i + 2).toNatClampNeg))).1))) [] (pM (gImplies μ ((xs (nI i + 1).toNatClampNeg)) ((xs (nI i + 2).toNatClampNeg))).2 (pT σ' (pO o' f0)), j + 1)
  rw [← zLw_M]
  exact tail_B (by omega) ho (hK σ' (gImplies μ ((xs (nI i + 1).toNatClampNeg)) ((xs (nI i + 2).toNatClampNeg))).2 o' _ _ (j + 1) hrel' (Nat.le_refl _))
theorem qw20 (hrel : zRel σ μ) (hi : i + 5 ≤ Ln) (hLn : Ln ≤ 2560) (hj : j ≤ 600) (hK : ∀ σ' μ' o' x5 x6 j', zRel σ' μ' → j' ≤ j + 1 → K (lsW i x5 x6) [] (zLw σ' μ' o' f0, j')) : bD20 xs Ln K (lsW i none none) [] (zLw σ μ o f0, j) := by
  obtain ⟨n, m, q, k, s, d, h9⟩ := id hrel
  refine ⟨vs1 hi hLn, (by omega : j ≤ 1000), rfl, Nat.zero_le _, ((xs (nI i + 1).toNatClampNeg)), σ, μ, o, f0, (gShown μ ((xs (nI i + 1).toNatClampNeg))), rfl, rfl, sim_shown hrel , fun σ' o' hrel' ho => ?_⟩
  refine ⟨(by decide : 5 < 7), ?_⟩
  obtain ⟨fs, h29, hfs⟩ := zLw_29 (σ := σ') (μ := μ) (o := o') (f := f0)
  refine ⟨vs1 hi hLn, (by omega : j + 1 ≤ 1000), fs, h29, hfs, rfl, Nat.zero_le _, μ, _, n, m, q, k, d, ((xs (nI i + 1).toNatClampNeg)), rfl, zLw_M, h9.2.1.1, ?_⟩
  refine ⟨(by decide : 6 < 7), ?_⟩
  show bTI K (lsW i (some (.int (gShown μ ((xs (nI i + 1).toNatClampNeg))).2.1)) (some (.int (gShown μ ((xs (nI i + 1).toNatClampNeg))).1))) [] (pM (gShown μ ((xs (nI i + 1).toNatClampNeg))).2 (pT σ' (pO o' f0)), j + 1)
  rw [← zLw_M]
  exact tail_I (by omega) ho (hK σ' (gShown μ ((xs (nI i + 1).toNatClampNeg))).2 o' _ _ (j + 1) hrel' (Nat.le_refl _))
theorem qw21 (hrel : zRel σ μ) (hi : i + 5 ≤ Ln) (hLn : Ln ≤ 2560) (hj : j ≤ 600) (hK : ∀ σ' μ' o' x5 x6 j', zRel σ' μ' → j' ≤ j + 1 → K (lsW i x5 x6) [] (zLw σ' μ' o' f0, j')) : bD21 xs Ln K (lsW i none none) [] (zLw σ μ o f0, j) := by
  obtain ⟨n, m, q, k, s, d, h9⟩ := id hrel
  refine ⟨vs1 hi hLn, (by omega : j ≤ 1000), rfl, Nat.zero_le _, ((xs (nI i + 1).toNatClampNeg)), σ, μ, o, f0, (gShown μ ((xs (nI i + 1).toNatClampNeg))), rfl, rfl, sim_shownByHand hrel , fun σ' o' hrel' ho => ?_⟩
  refine ⟨(by decide : 5 < 7), ?_⟩
  obtain ⟨fs, h29, hfs⟩ := zLw_29 (σ := σ') (μ := μ) (o := o') (f := f0)
  refine ⟨vs1 hi hLn, (by omega : j + 1 ≤ 1000), fs, h29, hfs, rfl, Nat.zero_le _, μ, _, n, m, q, k, d, ((xs (nI i + 1).toNatClampNeg)), rfl, zLw_M, h9.2.1.1, ?_⟩
  refine ⟨(by decide : 6 < 7), ?_⟩
  show bTI K (lsW i (some (.int (gShown μ ((xs (nI i + 1).toNatClampNeg))).2.1)) (some (.int (gShown μ ((xs (nI i + 1).toNatClampNeg))).1))) [] (pM (gShown μ ((xs (nI i + 1).toNatClampNeg))).2 (pT σ' (pO o' f0)), j + 1)
  rw [← zLw_M]
  exact tail_I (by omega) ho (hK σ' (gShown μ ((xs (nI i + 1).toNatClampNeg))).2 o' _ _ (j + 1) hrel' (Nat.le_refl _))
theorem qw22 (hrel : zRel σ μ) (hi : i + 5 ≤ Ln) (hLn : Ln ≤ 2560) (hj : j ≤ 600) (hK : ∀ σ' μ' o' x5 x6 j', zRel σ' μ' → j' ≤ j + 1 → K (lsW i x5 x6) [] (zLw σ' μ' o' f0, j')) : bD22 xs Ln K (lsW i none none) [] (zLw σ μ o f0, j) := by
  obtain ⟨n, m, q, k, s, d, h9⟩ := id hrel
  refine ⟨vs1 hi hLn, (by omega : j ≤ 1000), rfl, Nat.zero_le _, ((xs (nI i + 1).toNatClampNeg)), σ, μ, o, f0, (gUsers μ ((xs (nI i + 1).toNatClampNeg))), rfl, rfl, sim_users hrel , fun σ' o' hrel' ho => ?_⟩
  refine ⟨(by decide : 5 < 7), ?_⟩
  obtain ⟨fs, h29, hfs⟩ := zLw_29 (σ := σ') (μ := μ) (o := o') (f := f0)
  refine ⟨vs1 hi hLn, (by omega : j + 1 ≤ 1000), fs, h29, hfs, rfl, Nat.zero_le _, μ, _, n, m, q, k, d, ((xs (nI i + 1).toNatClampNeg)), rfl, zLw_M, h9.2.1.1, ?_⟩
  refine ⟨(by decide : 6 < 7), ?_⟩
  show bTI K (lsW i (some (.int (gUsers μ ((xs (nI i + 1).toNatClampNeg))).2.1)) (some (.int (gUsers μ ((xs (nI i + 1).toNatClampNeg))).1))) [] (pM (gUsers μ ((xs (nI i + 1).toNatClampNeg))).2 (pT σ' (pO o' f0)), j + 1)
  rw [← zLw_M]
  exact tail_I (by omega) ho (hK σ' (gUsers μ ((xs (nI i + 1).toNatClampNeg))).2 o' _ _ (j + 1) hrel' (Nat.le_refl _))
theorem qw23 (hrel : zRel σ μ) (hi : i + 5 ≤ Ln) (hLn : Ln ≤ 2560) (hj : j ≤ 600) (hK : ∀ σ' μ' o' x5 x6 j', zRel σ' μ' → j' ≤ j + 1 → K (lsW i x5 x6) [] (zLw σ' μ' o' f0, j')) : bD23 xs Ln K (lsW i none none) [] (zLw σ μ o f0, j) := by
  obtain ⟨n, m, q, k, s, d, h9⟩ := id hrel
  refine ⟨vs1 hi hLn, vs2 hi hLn, (by omega : j ≤ 1000), rfl, Nat.zero_le _, ((xs (nI i + 1).toNatClampNeg)), ((xs (nI i + 2).toNatClampNeg)), σ, μ, o, f0, (gReason μ ((xs (nI i + 1).toNatClampNeg)) ((xs (nI i + 2).toNatClampNeg))), rfl, rfl, sim_reason hrel , fun σ' o' hrel' ho => ?_⟩
  refine ⟨(by decide : 5 < 7), ?_⟩
  obtain ⟨fs, h29, hfs⟩ := zLw_29 (σ := σ') (μ := μ) (o := o') (f := f0)
  refine ⟨vs1 hi hLn, vs2 hi hLn, (by omega : j + 1 ≤ 1000), fs, h29, hfs, rfl, Nat.zero_le _, μ, _, n, m, q, k, d, ((xs (nI i + 1).toNatClampNeg)), ((xs (nI i + 2).toNatClampNeg)), rfl, zLw_M, h9.2.1.1, ?_⟩
  refine ⟨(by decide : 6 < 7), ?_⟩
  show bTI K (lsW i (some (.int (gReason μ ((xs (nI i + 1).toNatClampNeg)) ((xs (nI i + 2).toNatClampNeg))).2.1)) (some (.int (gReason μ ((xs (nI i + 1).toNatClampNeg)) ((xs (nI i + 2).toNatClampNeg))).1))) [] (pM (gReason μ ((xs (nI i + 1).toNatClampNeg)) ((xs (nI i + 2).toNatClampNeg))).2 (pT σ' (pO o' f0)), j + 1)
  rw [← zLw_M]
  exact tail_I (by omega) ho (hK σ' (gReason μ ((xs (nI i + 1).toNatClampNeg)) ((xs (nI i + 2).toNatClampNeg))).2 o' _ _ (j + 1) hrel' (Nat.le_refl _))
theorem qw24 (hrel : zRel σ μ) (hi : i + 5 ≤ Ln) (hLn : Ln ≤ 2560) (hj : j ≤ 600) (hK : ∀ σ' μ' o' x5 x6 j', zRel σ' μ' → j' ≤ j + 1 → K (lsW i x5 x6) [] (zLw σ' μ' o' f0, j')) : bD24 xs Ln K (lsW i none none) [] (zLw σ μ o f0, j) := by
  obtain ⟨n, m, q, k, s, d, h9⟩ := id hrel
  refine ⟨vs1 hi hLn, vs2 hi hLn, vs3 hi hLn, (by omega : j ≤ 1000), rfl, Nat.zero_le _, ((xs (nI i + 1).toNatClampNeg)), ((xs (nI i + 2).toNatClampNeg)), ((xs (nI i + 3).toNatClampNeg)), σ, μ, o, f0, (gCount μ ((xs (nI i + 1).toNatClampNeg)) ((xs (nI i + 2).toNatClampNeg)) ((xs (nI i + 3).toNatClampNeg))), rfl, rfl, sim_count hrel , fun σ' o' hrel' ho => ?_⟩
  refine ⟨(by decide : 5 < 7), ?_⟩
  obtain ⟨fs, h29, hfs⟩ := zLw_29 (σ := σ') (μ := μ) (o := o') (f := f0)
  refine ⟨vs1 hi hLn, vs2 hi hLn, vs3 hi hLn, (by omega : j + 1 ≤ 1000), fs, h29, hfs, rfl, Nat.zero_le _, μ, _, n, m, q, k, d, ((xs (nI i + 1).toNatClampNeg)), ((xs (nI i + 2).toNatClampNeg)), ((xs (nI i + 3).toNatClampNeg)), rfl, zLw_M, h9.2.1.1, ?_⟩
  refine ⟨(by decide : 6 < 7), ?_⟩
  show bTI K (lsW i (some (.int (gCount μ ((xs (nI i + 1).toNatClampNeg)) ((xs (nI i + 2).toNatClampNeg)) ((xs (nI i + 3).toNatClampNeg))).2.1)) (some (.int (gCount μ ((xs (nI i + 1).toNatClampNeg)) ((xs (nI i + 2).toNatClampNeg)) ((xs (nI i + 3).toNatClampNeg))).1))) [] (pM (gCount μ ((xs (nI i + 1).toNatClampNeg)) ((xs (nI i + 2).toNatClampNeg)) ((xs (nI i + 3).toNatClampNeg))).2 (pT σ' (pO o' f0)), j + 1)
  rw [← zLw_M]
  exact tail_I (by omega) ho (hK σ' (gCount μ ((xs (nI i + 1).toNatClampNeg)) ((xs (nI i + 2).toNatClampNeg)) ((xs (nI i + 3).toNatClampNeg))).2 o' _ _ (j + 1) hrel' (Nat.le_refl _))
theorem qw25 (hrel : zRel σ μ) (hi : i + 5 ≤ Ln) (hLn : Ln ≤ 2560) (hj : j ≤ 600) (hK : ∀ σ' μ' o' x5 x6 j', zRel σ' μ' → j' ≤ j + 1 → K (lsW i x5 x6) [] (zLw σ' μ' o' f0, j')) : bD25 xs Ln K (lsW i none none) [] (zLw σ μ o f0, j) := by
  obtain ⟨n, m, q, k, s, d, h9⟩ := id hrel
  refine ⟨vs1 hi hLn, vs2 hi hLn, vs3 hi hLn, vs4 hi hLn, (by omega : j ≤ 1000), rfl, Nat.zero_le _, ((xs (nI i + 1).toNatClampNeg)), ((xs (nI i + 2).toNatClampNeg)), ((xs (nI i + 3).toNatClampNeg)), ((xs (nI i + 4).toNatClampNeg)), σ, μ, o, f0, (gMatch μ ((xs (nI i + 1).toNatClampNeg)) ((xs (nI i + 2).toNatClampNeg)) ((xs (nI i + 3).toNatClampNeg)) ((xs (nI i + 4).toNatClampNeg))), rfl, rfl, sim_match hrel , fun σ' o' hrel' ho => ?_⟩
  refine ⟨(by decide : 5 < 7), ?_⟩
  obtain ⟨fs, h29, hfs⟩ := zLw_29 (σ := σ') (μ := μ) (o := o') (f := f0)
  refine ⟨vs1 hi hLn, vs2 hi hLn, vs3 hi hLn, vs4 hi hLn, (by omega : j + 1 ≤ 1000), fs, h29, hfs, rfl, Nat.zero_le _, μ, _, n, m, q, k, d, ((xs (nI i + 1).toNatClampNeg)), ((xs (nI i + 2).toNatClampNeg)), ((xs (nI i + 3).toNatClampNeg)), ((xs (nI i + 4).toNatClampNeg)), rfl, zLw_M, h9.2.1.1, ?_⟩
  refine ⟨(by decide : 6 < 7), ?_⟩
  show bTI K (lsW i (some (.int (gMatch μ ((xs (nI i + 1).toNatClampNeg)) ((xs (nI i + 2).toNatClampNeg)) ((xs (nI i + 3).toNatClampNeg)) ((xs (nI i + 4).toNatClampNeg))).2.1)) (some (.int (gMatch μ ((xs (nI i + 1).toNatClampNeg)) ((xs (nI i + 2).toNatClampNeg)) ((xs (nI i + 3).toNatClampNeg)) ((xs (nI i + 4).toNatClampNeg))).1))) [] (pM (gMatch μ ((xs (nI i + 1).toNatClampNeg)) ((xs (nI i + 2).toNatClampNeg)) ((xs (nI i + 3).toNatClampNeg)) ((xs (nI i + 4).toNatClampNeg))).2 (pT σ' (pO o' f0)), j + 1)
  rw [← zLw_M]
  exact tail_I (by omega) ho (hK σ' (gMatch μ ((xs (nI i + 1).toNatClampNeg)) ((xs (nI i + 2).toNatClampNeg)) ((xs (nI i + 3).toNatClampNeg)) ((xs (nI i + 4).toNatClampNeg))).2 o' _ _ (j + 1) hrel' (Nat.le_refl _))
end LS
