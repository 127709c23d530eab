/-! THE START: what the tables and the statement's words give -/
section ST
variable {s : State} {b : Nat}
theorem lw_D (hts : ∀ w ∈ lw_tbl, w.before #[Value.ref b] s = true) : ∃ D : va_G, va_K D vwCl [] s := by
  obtain ⟨c0, i0, k0⟩ := u_known hts wsL_law_uJ0 (hts (.instantiable RJ0 4) (by decide +kernel))
  obtain ⟨c1, i1, k1⟩ := u_known hts wsL_law_uJ4 (hts (.instantiable RJ4 4) (by decide +kernel))
  obtain ⟨c2, i2, k2⟩ := u_known hts wsL_law_uX0 (hts (.instantiable RX0 12) (by decide +kernel))
  obtain ⟨c3, i3, k3⟩ := u_known hts wsL_law_uX1 (hts (.instantiable RX1 4) (by decide +kernel))
  obtain ⟨c4, i4, k4⟩ := u_known hts wsL_law_uX2 (hts (.instantiable RX2 4) (by decide +kernel))
  obtain ⟨c5, i5, k5⟩ := u_known hts wsL_law_uX3 (hts (.instantiable RX3 7) (by decide +kernel))
  obtain ⟨c6, i6, k6⟩ := u_known hts wsL_law_uX4 (hts (.instantiable RX4 3) (by decide +kernel))
  obtain ⟨c7, i7, k7⟩ := u_known hts wsL_law_uX5 (hts (.instantiable RX5 7) (by decide +kernel))
  obtain ⟨c8, i8, k8⟩ := u_known hts wsL_law_uX6 (hts (.instantiable RX6 5) (by decide +kernel))
  obtain ⟨c9, i9, k9⟩ := u_known hts wsL_law_uX7 (hts (.instantiable RX7 9) (by decide +kernel))
  refine ⟨(fun k => [c0, c1, c2, c3, c4, c5, c6, c7, c8, c9].getD k c0, fun k => [i0, i1, i2, i3, i4, i5, i6, i7, i8, i9].getD k i0), fun k q hq => ?_, fun k q hq => by cases hq⟩
  match k, hq with
  | 0, h => cases h; exact k0
  | 1, h => cases h; exact k1
  | 2, h => cases h; exact k2
  | 3, h => cases h; exact k3
  | 4, h => cases h; exact k4
  | 5, h => cases h; exact k5
  | 6, h => cases h; exact k6
  | 7, h => cases h; exact k7
  | 8, h => cases h; exact k8
  | 9, h => cases h; exact k9
  | n + 10, h => cases h
theorem lw_wCast (hts : ∀ w ∈ lw_tbl, w.before #[Value.ref b] s = true) : wCast "java/lang/IllegalArgumentException" s ∧ wCast "java/lang/IllegalStateException" s ∧ wCast "java/lang/IndexOutOfBoundsException" s :=
  ⟨⟨va_Nw.of rfl (hts _ (by decide +kernel)), va_Nw.of rfl (hts _ (by decide +kernel)), va_Nw.of rfl (hts _ (by decide +kernel)), va_Nw.of rfl (hts _ (by decide +kernel))⟩, ⟨va_Nw.of rfl (hts _ (by decide +kernel)), va_Nw.of rfl (hts _ (by decide +kernel)), va_Nw.of rfl (hts _ (by decide +kernel)), va_Nw.of rfl (hts _ (by decide +kernel))⟩, va_Nw.of rfl (hts _ (by decide +kernel)), va_Nw.of rfl (hts _ (by decide +kernel)), va_Nw.of rfl (hts _ (by decide +kernel)), va_Nw.of rfl (hts _ (by decide +kernel))⟩
theorem lw_nest (hts : ∀ w ∈ lw_tbl, w.before #[Value.ref b] s = true) : wNest s := ⟨va_Nw.of rfl (hts _ (by decide +kernel)), va_Nw.of rfl (hts _ (by decide +kernel)), lw_wCast hts⟩
theorem lw_init (hts : ∀ w ∈ lw_tbl, w.before #[Value.ref b] s = true) : va_AO RX0 s ∧ va_AO RX6 s ∧ va_AO RX2 s ∧ va_AO RX3 s ∧ va_Nw (.methodLinkNest RX7 9 yX5_init RX7) s ∧ va_Nw (.methodLinkNest RX7 31 yX6_init RX7) s ∧ va_Nw (.methodLinkNest RX7 38 yX2_init RX7) s ∧ va_Nw (.methodLinkNest RX1 21 yX3_init RX7) s :=
  ⟨va_AO.of (hts (.arrayOver (.object RX0)) (by decide +kernel)), va_AO.of (hts (.arrayOver (.object RX6)) (by decide +kernel)), va_AO.of (hts (.arrayOver (.object RX2)) (by decide +kernel)), va_AO.of (hts (.arrayOver (.object RX3)) (by decide +kernel)), va_Nw.of rfl (hts _ (by decide +kernel)), va_Nw.of rfl (hts _ (by decide +kernel)), va_Nw.of rfl (hts _ (by decide +kernel)), va_Nw.of rfl (hts _ (by decide +kernel))⟩
theorem lw_wDn (hts : ∀ w ∈ lw_tbl, w.before #[Value.ref b] s = true) (hgv : (Jvm.Cond.and given_1 narrow_1).before #[Value.ref b] s = true) : wDn s := by
  have hs := flat_of_before _ hgv
  exact ⟨va_Nw.of rfl (hts _ (by decide +kernel)), va_Nw.of rfl (hts _ (by decide +kernel)), va_Nc.of (hs _ (by decide +kernel)), va_Nc.of (hs _ (by decide +kernel)), va_Nc.of (hs _ (by decide +kernel))⟩
end ST
