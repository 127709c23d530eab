/-! THE START: what the tables and the statement's words give -/
section ST
variable {s : State} {b : Nat}
theorem lw_D (hts : ∀ w ∈ lw_tbl, w.before #[Value.ref b] s = true) : ∃ D : va_G, va_K D vwCl [] s := by
  obtain ⟨c0, i0, k0⟩ := u_known hts wsL_law_uJ0 (hts (.instantiable RJ0 4) (by decide +kernel))
  obtain ⟨c1, i1, k1⟩ := u_known hts wsL_law_uJ4 (hts (.instantiable RJ4 4) (by decide +kernel))
  obtain ⟨c2, i2, k2⟩ := u_known hts wsL_law_uX0 (hts (.instantiable RX0 12) (by decide +kernel))
  obtain ⟨c3, i3, k3⟩ := u_known hts wsL_law_uX1 (hts (.instantiable RX1 4) (by decide +kernel))
  obtain ⟨c4, i4, k4⟩ := u_known hts wsL_law_uX2 (hts (.instantiable RX2 4) (by decide +kernel))
  obtain ⟨c5, i5, k5⟩ := u_known hts wsL_law_uX3 (hts (.instantiable RX3 7) (by decide +kernel))
  obtain ⟨c6, i6, k6⟩ := u_known hts wsL_law_uX4 (hts (.instantiable RX4 3) (by decide +kernel))
  obtain ⟨c7, i7, k7⟩ := u_known hts wsL_law_uX5 (hts (.instantiable RX5 7) (by decide +kernel))
  obtain ⟨c8, i8, k8⟩ := u_known hts wsL_law_uX6 (hts (.instantiable RX6 5) (by decide +kernel))
  obtain ⟨c9, i9, k9⟩ := u_known hts wsL_law_uX7 (hts (.instantiable RX7 9) (by decide +kernel))
  refine ⟨(fun k => [c0, c1, c2, c3, c4, c5, c6, c7, c8, c9].getD k c0, fun k => [i0, i1, i2, i3, i4, i5, i6, i7, i8, i9].getD k i0), fun k q hq => ?_, fun k q hq => by cases hq⟩
  match k, hq with
  | 0, h => cases h; exact k0
  | 1, h => cases h; exact k1
  | 2, h => cases h; exact k2
  | 3, h => cases h; exact k3
  | 4, h => cases h; exact k4
  | 5, h => cases h; exact k5
  | 6, h => cases h; exact k6
  | 7, h => cases h; exact k7
  | 8, h => cases h; exact k8
  | 9, h => cases h; exact k9
  | n + 10, h => cases h
theorem lw_wCast (hts : ∀ w ∈ lw_tbl, w.before #[Value.ref b] s = true) : wCast "java/lang/IllegalArgumentException" s ∧ wCast "java/lang/IllegalStateException" s ∧ wCast "java/lang/IndexOutOfBoundsException" s :=
  ⟨⟨va_Nw.of rfl (hts _ (by decide +kernel)), va_Nw.of rfl (hts _ (by decide +kernel)), va_Nw.of rfl (hts _ (by decide +kernel)), va_Nw.of rfl (hts _ (by decide +kernel))⟩, ⟨va_Nw.of rfl (hts _ (by decide +kernel)), va_Nw.of rfl (hts _ (by decide +kernel)), va_Nw.of rfl (hts _ (by decide +kernel)), va_Nw.of rfl (hts _ (by decide +kernel))⟩, va_Nw.of rfl (hts _ (by decide +kernel)), va_Nw.of rfl (hts _ (by decide +kernel)), va_Nw.of rfl (hts _ (by decide +kernel)), va_Nw.of rfl (hts _ (by decide +kernel))⟩
theorem lw_nest (hts : ∀ w ∈ lw_tbl, w.before #[Value.ref b] s = true) : wNest s := ⟨va_Nw.of rfl (hts _ (by decide +kernel)), va_Nw.of rfl (hts _ (by decide +kernel)), lw_wCast hts⟩
theorem lw_init (hts : ∀ w ∈ lw_tbl, w.before #[Value.ref b] s = true) : va_AO RX0 s ∧ va_AO RX6 s ∧ va_AO RX2 s ∧ va_AO RX3 s ∧ va_Nw (.methodLinkNest RX7 9 yX5_init RX7) s ∧ va_Nw (.methodLinkNest RX7 31 yX6_init RX7) s ∧ va_Nw (.methodLinkNest RX7 38 yX2_init RX7) s ∧ va_Nw (.methodLinkNest RX1 21 yX3_init RX7) s :=
  ⟨va_AO.of (hts (.arrayOver (.object RX0)) (by decide +kernel)), va_AO.of (hts (.arrayOver (.object RX6)) (by decide +kernel)), va_AO.of (hts (.arrayOver (.object RX2)) (by decide +kernel)), va_AO.of (hts (.arrayOver (.object RX3)) (by decide +kernel)), va_Nw.of rfl (hts _ (by decide +kernel)), va_Nw.of rfl (hts _ (by decide +kernel)), va_Nw.of rfl (hts _ (by decide +kernel)), va_Nw.of rfl (hts _ (by decide +kernel))⟩
theorem lw_wDn (hts : ∀ w ∈ lw_tbl, w.before #[Value.ref b] s = true) (hgv : (Jvm.Cond.and given_1 narrow_1).before #[Value.ref b] s = true) : wDn s := by
  have hs := flat_of_before _ hgv
  exact ⟨va_Nw.of rfl (hts _ (by decide +kernel)), va_Nw.of rfl (hts _ (by decide +kernel)), va_Nc.of (hs _ (by decide +kernel)), va_Nc.of (hs _ (by decide +kernel)), va_Nc.of (hs _ (by decide +kernel))⟩
theorem lw_str (hts : ∀ w ∈ lw_tbl, w.before #[Value.ref b] s = true) (hgv : (Jvm.Cond.and given_1 narrow_1).before #[Value.ref b] s = true) : wStr s := by
  have hs := flat_of_before _ hgv
  have h1 : ∀ x ∈ wstrs, Cond.stringRef RX7 x.1 x.2 ∈ lw_tbl := by decide +kernel
  have h2 : ∀ x ∈ wstrs, Cond.exactly (.string RX7 x.1) "java/lang/String" ∈ flatC (Jvm.Cond.and given_1 narrow_1) := by decide +kernel
  intro x hx
  obtain ⟨a9, c9, e9, k9, ha, h9⟩ := Cond.exactly_spec (hs _ (h2 x hx))
  exact ⟨a9, vk_R.of (hts _ (h1 x hx)) ha⟩
theorem lw_zq (hts : ∀ w ∈ lw_tbl, w.before #[Value.ref b] s = true) (hgv : (Jvm.Cond.and given_1 narrow_1).before #[Value.ref b] s = true) {A : Nat → Prop} (hA : ∀ a : Nat, a < s.heap.size → ¬ A a) : vx_Zq Bundle.tN "UNASSIGNED_STACK" Bundle.steD A s s.heap ∧ vx_Zq Bundle.tN "SUPPRESSED_SENTINEL" Bundle.listD A s s.heap := by
  have hs := flat_of_before _ hgv
  exact ⟨vx_Zqof (hts (.laysStatic Bundle.tN "UNASSIGNED_STACK" Bundle.steD) (by decide +kernel)) (hts (.initialized Bundle.tN) (by decide +kernel)) (hs (.isRef (.static Bundle.tN "UNASSIGNED_STACK" Bundle.steD)) (by decide +kernel)) hA,
    vx_Zqof (hts (.laysStatic Bundle.tN "SUPPRESSED_SENTINEL" Bundle.listD) (by decide +kernel)) (hts (.initialized Bundle.tN) (by decide +kernel)) (hs (.isRef (.static Bundle.tN "SUPPRESSED_SENTINEL" Bundle.listD)) (by decide +kernel)) hA⟩
def lw_dg (n : String) (g : Nat → Nat) (j : Nat) : Cond := .eq (.elem (.static "java/lang/Integer" n "[B") (.int (Int32.ofNat j))) (.int (Int32.ofNat (48 + g j)))
theorem lw_dg1 : ∀ j, j < 100 → (flatC (Jvm.Cond.and given_1 narrow_1))[14 + j]? = some (lw_dg "DigitOnes" (fun j => j % 10) j) := by decide +kernel
theorem lw_dg2 : ∀ j, j < 100 → (flatC (Jvm.Cond.and given_1 narrow_1))[117 + j]? = some (lw_dg "DigitTens" (fun j => j / 10) j) := by decide +kernel
theorem lw_ty {D : va_G} (hK : va_K D vwCl [] s) (hts : ∀ w ∈ lw_tbl, w.before #[Value.ref b] s = true) : ∃ c : ClassId, va_K D vwCl [(c, .byte)] s := by
  obtain ⟨c9, k9, m9, hfind, hk, hkind⟩ := Cond.arrayClass_spec (hts (.arrayClass .byte) (by decide +kernel))
  refine ⟨c9, hK.1, fun k q hq => ?_⟩
  match k, hq with
  | 0, h => cases h; exact ⟨fun n z => ⟨fun k h => (by cases h), k9, hk, m9, hkind⟩, hfind⟩
  | n + 1, h => cases h
theorem lw_jZ {D : va_G} (hK : va_K D vwCl [] s) (hts : ∀ w ∈ lw_tbl, w.before #[Value.ref b] s = true) (hgv : (Jvm.Cond.and given_1 narrow_1).before #[Value.ref b] s = true) {A : Nat → Prop} (hA : ∀ a : Nat, a < s.heap.size → ¬ A a) : ∃ J : jT, jZ J D A s := by
  have hs := flat_of_before _ hgv
  obtain ⟨c9, hb9⟩ := lw_ty hK hts
  have hz := va_Zof (v := .int (zI 1)) (hts (.laysStatic "java/lang/String" "COMPACT_STRINGS" "Z") (by decide +kernel)) (hts (.initialized "java/lang/String") (by decide +kernel)) (va_eqi (hs (.eq (.static "java/lang/String" "COMPACT_STRINGS" "Z") (.int (zI 1))) (by decide +kernel))) hA
  obtain ⟨d1, e1, t1⟩ := va_Tof (N := 100) (ty := .byte) (f := fun j => .int (Int32.ofNat (48 + j % 10))) (tm := .static "java/lang/Integer" "DigitOnes" "[B") (by decide) (hs (.arrayOf (.static "java/lang/Integer" "DigitOnes" "[B") .byte) (by decide +kernel)) (va_eqt (hs (.eq (.length (.static "java/lang/Integer" "DigitOnes" "[B")) (.int (Int32.ofNat 100))) (by decide +kernel))) (fun j hj => va_eqt (hs _ (List.mem_of_getElem? (lw_dg1 j hj)))) hA
  obtain ⟨d2, e2, t2⟩ := va_Tof (N := 100) (ty := .byte) (f := fun j => .int (Int32.ofNat (48 + j / 10))) (tm := .static "java/lang/Integer" "DigitTens" "[B") (by decide) (hs (.arrayOf (.static "java/lang/Integer" "DigitTens" "[B") .byte) (by decide +kernel)) (va_eqt (hs (.eq (.length (.static "java/lang/Integer" "DigitTens" "[B")) (.int (Int32.ofNat 100))) (by decide +kernel))) (fun j hj => va_eqt (hs _ (List.mem_of_getElem? (lw_dg2 j hj)))) hA
  have z1 := va_Zof (v := .ref d1) (hts (.laysStatic "java/lang/Integer" "DigitOnes" "[B") (by decide +kernel)) (hts (.initialized "java/lang/Integer") (by decide +kernel)) e1 hA
  have z2 := va_Zof (v := .ref d2) (hts (.laysStatic "java/lang/Integer" "DigitTens" "[B") (by decide +kernel)) (hts (.initialized "java/lang/Integer") (by decide +kernel)) e2 hA
  exact ⟨(c9, d1, d2, fun j => Int32.ofNat (48 + j % 10), fun j => Int32.ofNat (48 + j / 10)), hb9, hz, z1, t1, z2, t2⟩
end ST
theorem lw_warmL {a9 n9 : String} {i9 : Nat} {s U : State} (hW : s.WarmedH U.vm) (hZ : va_Nw (.classLink a9 i9 n9) s) : va_Nw (.classLink a9 i9 n9) U := va_tabs rfl (rfl : (s.setVm U.vm).vm = U.vm) (Cond.classLink_shifted (State.Shifted.of_warmed hW) hZ)
theorem wDn_warm {s U : State} (hW : s.WarmedH U.vm) (h : wDn s) : wDn U := ⟨lw_warmL hW h.1, lw_warmL hW h.2.1, va_Nc.moved hW.alike h.2.2.1, va_Nc.moved hW.alike h.2.2.2.1, va_Nc.moved hW.alike h.2.2.2.2⟩
theorem WdD_blind {D : va_G} {cy : Nat → ClassId} {a q : Nat → Nat} {σ : Nat → Nat → Int} {av : List Value} {sz : Nat} : FrameBlind (va_Pc av (fun U => U.heap.size = sz ∧ Wd D cy a q σ U ∧ wDn U)) := fun v U g mk h => by
  obtain ⟨h1, h2, h3, h4⟩ := h
  obtain ⟨k1, k2, k3⟩ := Wd_blind (D := D) (cy := cy) (a := a) (q := q) (σ := σ) (av := av) (sz := sz) v U g mk ⟨h1, h2, h3⟩
  exact ⟨k1, k2, k3, wDn_warm (s := U) (U := U.calling g mk v) (State.WarmedH.refl U) h4⟩
theorem lw_iblind {D : va_G} {A : Nat → Prop} {ws : va_W} {av : List Value} {sz : Nat} {w1 w2 w3 w4 : Cond} (g1 : w1.onTables = true) (g2 : w2.onTables = true) (g3 : w3.onTables = true) (g4 : w4.onTables = true) : FrameBlind (va_Pc av (fun U => U.heap.size = sz ∧ va_P D vwCl ws U.heap ∧ va_D A ws ∧ va_K D vwCl [] U ∧ va_AO RX0 U ∧ va_AO RX6 U ∧ va_AO RX2 U ∧ va_AO RX3 U ∧ va_Nw w1 U ∧ va_Nw w2 U ∧ va_Nw w3 U ∧ va_Nw w4 U)) := fun v U g mk h => by
  obtain ⟨e1, e2, e3, e4, e5, o0, o6, o2, o3, n1, n2, n3, n4⟩ := h
  have al : U.vm.Alike (U.calling g mk v).vm := Vm.Alike.refl U.vm
  exact ⟨e1, e2, e3, e4, va_K.moved al e5, va_AO.moved al o0, va_AO.moved al o6, va_AO.moved al o2, va_AO.moved al o3, va_Nw.same (u := U) (U := U.calling g mk v) g1 rfl n1, va_Nw.same (u := U) (U := U.calling g mk v) g2 rfl n2, va_Nw.same (u := U) (U := U.calling g mk v) g3 rfl n3, va_Nw.same (u := U) (U := U.calling g mk v) g4 rfl n4⟩
