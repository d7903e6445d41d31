section K8
/-- what may be asked of an implication is the same in the class and in the model, while there is no circle -/
theorem allow_imp {ρ : zRS} {n t o : Nat} {nx re : Nat → Int32} (hn : n ≤ 24) (hac : zAc ρ.1 n) (ht : t < n) (ho : o < n) (hno : fCir ρ.1 ρ.2.1 n = false) (hre : ρ.2.2.2.1 = fRe n (fNx ρ.1 ρ.2.1 n nx n) re n) : fAllow ρ n 1 t o = fMay ρ.1 ρ.2.1 n 1 t o := by
  have hlo := fE_lt (al := ρ.1) (n := n) (by omega) n o ho
  have h1 : bt (ρ.2.2.2.1 (fE ρ.1 n n o)) (fE ρ.1 n n t) = true ↔ zWay (zTo ρ.1 ρ.2.1 n) (fE ρ.1 n n o) (fE ρ.1 n n t) := by
    rw [hre]; exact fRe_to hn hlo
  have h2 : fCir ρ.1 (upd ρ.2.1 t (ρ.2.1 t ||| sh1 o)) n = true ↔ zWay (zTo ρ.1 ρ.2.1 n) (fE ρ.1 n n o) (fE ρ.1 n n t) := by
    rw [fCir_cy hn hac, zCy_cg (zTo_imp hn ht ho), zCy_add, ← fCir_cy hn hac, hno]
    exact ⟨fun h => h.elim (fun q => absurd q (by decide)) id, Or.inr⟩
  have h3 : bt (ρ.2.2.2.1 (fE ρ.1 n n o)) (fE ρ.1 n n t) = fCir ρ.1 (upd ρ.2.1 t (ρ.2.1 t ||| sh1 o)) n := Bool.eq_iff_iff.mpr (h1.trans h2.symm)
  unfold fAllow fMay
  rw [if_neg (show ¬ (1 : Int32) = 0 by decide), if_pos rfl, if_neg (show ¬ (1 : Int32) = 2 by decide), if_neg (show ¬ (1 : Int32) = 3 by decide), if_neg (show ¬ (1 : Int32) = 0 by decide)]
  rw [show fDoA ρ.1 1 t o = ρ.1 by simp [fDoA, upd_id], show fDoI ρ.2.1 1 t o = upd ρ.2.1 t (ρ.2.1 t ||| sh1 o) by simp [fDoI], h3]
  cases bt (ρ.2.1 t) o <;> simp
theorem allow_lift {ρ : zRS} {n t o : Nat} {k : Int32} (hk : k = 2 ∨ k = 3) : fAllow ρ n k t o = fMay ρ.1 ρ.2.1 n k t o := by
  rcases hk with rfl | rfl
  · simp [fAllow, fMay]
  · simp [fAllow, fMay]
end K8
