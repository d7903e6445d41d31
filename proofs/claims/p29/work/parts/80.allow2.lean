section K11
theorem zTo_alias {al im : Nat → Int32} {n t o : Nat} (hn : n ≤ 24) (hac : zAc al n) (ht : t < n) (ho : o < n) (h1 : al t = -1) (h2 : ¬ fE al n n o = t) (a b : Nat) : zTo (upd al t (nI o)) im n a b ↔ ∃ a0 b0, zTo al im n a0 b0 ∧ zMg t (fE al n n o) a0 = a ∧ zMg t (fE al n n o) b0 = b := by
  have he : ∀ j, j < n → fE (upd al t (nI o)) n n j = zMg t (fE al n n o) (fE al n n j) := fun j hj => fE_alias (by omega) hac ht ho h1 h2 hj
  constructor
  · rintro ⟨j, hj, e, l, hl, hb, e2⟩
    exact ⟨_, _, ⟨j, hj, rfl, l, hl, hb, rfl⟩, by rw [← he j hj]; exact e, by rw [← he l hl]; exact e2⟩
  · rintro ⟨a0, b0, ⟨j, hj, e, l, hl, hb, e2⟩, ea, eb⟩
    exact ⟨j, hj, by rw [he j hj, e]; exact ea, l, hl, hb, by rw [he l hl, e2]; exact eb⟩
theorem allow_ali {ρ : zRS} {n t o : Nat} {nx re : Nat → Int32} (hn : n ≤ 24) (hac : zAc ρ.1 n) (ht : t < n) (ho : o < n) (hno : fCir ρ.1 ρ.2.1 n = false) (hre : ρ.2.2.2.1 = fRe n (fNx ρ.1 ρ.2.1 n nx n) re n) : fAllow ρ n 0 t o = fMay ρ.1 ρ.2.1 n 0 t o := by
  have hlo := fE_lt (al := ρ.1) (n := n) (by omega) n o ho
  unfold fAllow fMay fAlias
  rw [if_pos rfl, if_neg (show ¬ (0 : Int32) = 2 by decide), if_neg (show ¬ (0 : Int32) = 3 by decide), if_pos rfl]
  by_cases h1 : ρ.1 t = -1
  · by_cases h2 : fE ρ.1 n n o = t
    · simp [h1, h2]
    · rw [show fDoA ρ.1 0 t o = upd ρ.1 t (nI o) by simp [fDoA], show fDoI ρ.2.1 0 t o = ρ.2.1 by simp [fDoI, upd_id]]
      have hac2 := zAc_alias (by omega) hac ht ho h1 h2
      have h3 : fCir (upd ρ.1 t (nI o)) ρ.2.1 n = true ↔ (bt (ρ.2.2.2.1 t) (fE ρ.1 n n o) = true ∨ bt (ρ.2.2.2.1 (fE ρ.1 n n o)) t = true) := by
        rw [fCir_cy hn hac2, zCy_cg (zTo_alias hn hac ht ho h1 h2), zCy_merge (fun q => h2 q.symm), ← fCir_cy hn hac, hno, hre, fRe_to hn ht, fRe_to hn hlo]
        exact ⟨fun h => h.elim (fun q => absurd q (by decide)) id, Or.inr⟩
      have h4 : fCir (upd ρ.1 t (nI o)) ρ.2.1 n = (bt (ρ.2.2.2.1 t) (fE ρ.1 n n o) || bt (ρ.2.2.2.1 (fE ρ.1 n n o)) t) := by
        apply Bool.eq_iff_iff.mpr
        rw [h3, Bool.or_eq_true]
      rw [h4]
      simp [h1, h2]
  · simp [h1]
end K11
