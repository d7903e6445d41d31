section K12
theorem noc_lift_imp {al im : Nat → Int32} {n t o : Nat} (hn : n ≤ 24) (hac : zAc al n) (h : fCir al im n = false) : fCir al (upd im t (im t &&& (sh1 o ^^^ (-1)))) n = false := by
  cases hc : fCir al (upd im t (im t &&& (sh1 o ^^^ (-1)))) n with
  | false => rfl
  | true =>
    exfalso
    obtain ⟨a, b, r, w⟩ := (fCir_cy hn hac).mp hc
    have mono : ∀ a b, zTo al (upd im t (im t &&& (sh1 o ^^^ (-1)))) n a b → zTo al im n a b := by
      rintro a b ⟨j, hj, e, l, hl, hb, e2⟩
      refine ⟨j, hj, e, l, hl, ?_, e2⟩
      by_cases q : j = t
      · subst q
        have hb' : bt (im j &&& (sh1 o ^^^ (-1))) l = true := by simpa only [upd, if_true] using hb
        rw [b_and, Bool.and_eq_true] at hb'
        exact hb'.1
      · simpa only [upd, if_neg q] using hb
    have := (fCir_cy hn hac).mpr ⟨a, b, mono a b r, zWay_mono mono w⟩
    rw [h] at this
    exact absurd this (by decide)
end K12
