set_option maxHeartbeats 4000000 in
set_option maxRecDepth 100000 in
/-- X7_rope -/
theorem c_X7_rope (l : Launch) (hlT : l.stackTraces = false) (D : va_G) (cy : Nat → ClassId) (a q : Nat → Nat) (σ : Nat → Nat → Int) (sz : Nat) (n0 : Int) (hn0 : rg n0) (t0 : Int) (hO : okA t0 (σ 1 5) q σ) (ht9 : t0 < 1000000) : vx_Met l yX7_rope wsX7_rope ({ frames := 10, cells := 1, slots := 6, locals := 400 }) (va_Pc [.ref (a 0), .int (zI (n0))] (fun U => U.heap.size = sz ∧ Wd D cy a q σ U)) (va_Qi (fun (r : Int32) (u : ((Nat → Nat) × (Nat → Nat → Int))) => ∃ z : Int, r = zI z ∧ (okA (t0 + 1) (u.2 1 5) u.1 u.2 ∧ Ev σ u.2)) (fun (u : ((Nat → Nat) × (Nat → Nat → Int))) t => Wd D cy a u.1 u.2 t) (wF a sz)) (vx_X (fun (_ : Unit) => True) (fun E _ _ => okE E) (fun _ => False)) 1 6 (wF a sz) := by
  refine vx_ofW (cc := cX7_rope) (maxL := 4) (ret := (some .int)) (by decide) rfl ?_
  intro p e s m args below meth c s₁ B hml hexc hpc0
  obtain ⟨rfl, hsz, hW0⟩ := hpc0
  have hx := B.exec
  have hb := B.bytes
  have hr := B.returns
  have hts := atoms_spec (ws := wsX7_rope) B.pre
  have hown : s.vm.findClass RX7 = some m.cls := findClass_of_methodNamed B.named
  have hlocks := B.notSynchronized
  subst hsz
  obtain ⟨hP00, hE0⟩ := id hW0
  obtain ⟨hK, hinj, hU0, hN0, hstr, hnest⟩ := id hE0
  have hP : va_P D vwCl (wld cy a q σ ++ []) s.heap := by rw [List.append_nil]; exact hP00
  have hD : va_D (wF a s.heap.size) (wld cy a q σ ++ []) := wD_of hinj
  have hA : ∀ x : Nat, s.heap.size ≤ x → wF a s.heap.size x := fun _ h => Or.inr h
  have hS : va_S (wF a s.heap.size) s.heap s.heap [] := va_S.rf
  have hk0 : ∀ x : Nat, x < s.heap.size → s.heap[x]? = s.heap[x]? := fun _ _ => rfl
  have hl := lv_entry ([.ref (a 0), .int (zI (n0))]) (n := 4) (Nat.le_of_ble_eq_true rfl)
  rw [lg_entry_eq]
  generalize (lg_sl ([.ref (a 0), .int (zI (n0))]) ++ List.replicate (4 - (lg_sl ([.ref (a 0), .int (zI (n0))])).length) Slot.unset).toArray = ls at hl ⊢
  have hl : lv_has ls 4 [(0, .ref (a 0)), (1, .int (zI (n0)))] := hl
  have k156 := hts (.fieldLink RX7 156 "Slewfree$Crane" "wear" "I") (by decide +kernel)
  have inX0 : ∀ w ∈ u_ws RX0 TX0 12, w ∈ wsX7_rope := by decide +kernel
  obtain ⟨oS, oW, oC, oZ, oM, oL, oP, oQ, oH⟩ := id hO
  unfold okS at oS; unfold okW at oW; unfold okL at oL
  refine lv_aload_n hx hb dX7_rope_0 rfl (lv_at hl 0 rfl) ?_
  refine lv_iload_n hx hb dX7_rope_1 rfl (lv_at hl 1 rfl) ?_
  refine vx_callr (vx_runV (As := [.int (zI (n0))]) (rest := []) ⟨hx, hb, hml, hown, hts⟩ (c_X7_craneAt l hlT D cy a q σ s.heap.size (n0) (by omega) (by first | assumption | omega)) (cwV 1 hts gX7_rope_X7_craneAt rfl rfl rfl (by decide +kernel) ⟨Nat.le_of_ble_eq_true rfl, Nat.le_of_ble_eq_true rfl⟩) ⟨Wd_blind, va_recv hK hP (ci := 9) (q0 := 0) rfl wg_S, fun U hU hW => ⟨rfl, by rw [hU], Wd_mk (wP_left hP) hE0 hS hU hW⟩⟩ rfl rfl hl.1 rfl (lv_room (Nat.le_of_ble_eq_true rfl)) dX7_rope_2 ⟨(show 0 + 1 ≤ 1 by omega), (show 0 + 6 ≤ 6 by omega)⟩) hS (fun _ _ h => h.elim) (fun _ h => wF_mono hS.1 _ h) (fun _ _ h => h.elim) (fun E9 ce9 q9 u9 t9 H locs ht hvm hpx hE hz hk hS1 hce hcv hcl => ?_) (fun u9 ra9 t9 H locs ht hvm hw hB hz hk hS1 => ?_)
  · skip
    refine vx_widen (k := 1) (n := 6) (by omega) (by omega) ?_
    exact vx_out (fun x h => (hexc x h).elim) hlocks hce hcv hcl (fun t9 ht9 hvm9 => ⟨(), trivial, hE, vF_R ht9 (Nat.le_trans hS.1 hz) (fun x h9 => (hk x (Nat.lt_of_lt_of_le h9 hS.1) (fun h => h)).trans (hk0 x h9))⟩) hS1.2.2 (Nat.le_refl _) (Nat.le_refl _)
  · skip
    have hP := hP.kept (fun k x hk9 => hk x.1 ((hP k x hk9).lt) (fun h => h))
    have hk0 : ∀ x : Nat, x < s.heap.size → H[x]? = s.heap[x]? := fun x h9 => (hk x (Nat.lt_of_lt_of_le h9 hS.1) (fun h => h)).trans (hk0 x h9)
    have hS := hS1
    subst hB
    obtain ⟨ic2, eic2⟩ : ∃ z : Nat, z = u9 := ⟨u9, rfl⟩
    rw [← eic2] at hw ⊢
    have hi2 := hw
    have oC_a := oC ic2 (by omega); unfold okC at oC_a
    refine lv_astore_n (lv' := [(2, .ref (a (3 + ic2))), (0, .ref (a 0)), (1, .int (zI (n0)))]) hx hb dX7_rope_5 rfl hl (by decide) rfl (fun ls hl => ?_)
    refine lv_aload_n hx hb dX7_rope_6 rfl (lv_at hl 0 rfl) ?_
    refine va_get (D := D) (ci := 2) (v := .int (zI (σ (3 + ic2) 10))) (C := RX0) (T := TX0) (N := 12) hx hb hts inX0 hown hK hP (3 + ic2) (wg_C (i := ic2) (by first | assumption | omega)) rfl 10 (by decide) k156 (fun _ h9 => h9) rfl dX7_rope_7 ?_
    refine lv_istore_n (lv' := [(3, .int (zI (σ (3 + ic2) 10))), (2, .ref (a (3 + ic2))), (0, .ref (a 0)), (1, .int (zI (n0)))]) hx hb dX7_rope_10 rfl hl (by decide) rfl (fun ls hl => ?_)
    refine lv_aload_n hx hb dX7_rope_11 rfl (lv_at hl 1 rfl) ?_
    refine lv_iconst (v := zI 0) hx hb dX7_rope_12 rfl ?_
    refine w_put (ty := .int) (z := 0) (C := RX0) (T := TX0) (N := 12) hx hb hts inX0 tyX0 tyX0_ok nmX0 hown hK hP hD hS (3 + ic2) (by omega) (ci := 2) (fs := fC) (fun _ => wc_C (i := ic2) (by first | assumption | omega)) rfl 10 (by decide) k156 (fun _ h9 => h9) rfl (by decide +kernel) rfl rfl (Nat.le_of_ble_eq_true rfl) rfl dX7_rope_13 (fun H locs hP hD hS => ?_)
    obtain ⟨σp13, eσp13⟩ : ∃ z, z = up2 σ (3 + ic2) 10 (0) := ⟨_, rfl⟩
    rw [← eσp13] at hP hD
    refine lv_iload_n hx hb dX7_rope_16 rfl (lv_at hl 0 rfl) ?_
    refine vx_ret ?_
    refine W.widen (k := 1) (n := 6) (by omega) (by omega) ?_
    have eR : σp13 = upR σ (3 + ic2) (upr (σ (3 + ic2)) 10 (0)) := by
      rw [eσp13]
      simp only [up2, upR_s, upR_R]
    have hO1 : okA t0 (σ 1 5) q σp13 := by
      rw [eR]
      refine okA_C hO (by omega) ?_
      show σ (3 + ic2) 0 = ic2 ∧ 0 ≤ σ (3 + ic2) 3 ∧ σ (3 + ic2) 3 ≤ 23 ∧ (σ (3 + ic2) 5 = 0 ∨ σ (3 + ic2) 5 = 1) ∧ (0 ≤ σ (3 + ic2) 9 ∧ σ (3 + ic2) 9 ≤ σ (3 + ic2) 8 ∧ σ (3 + ic2) 8 ≤ σ (3 + ic2) 7 ∧ σ (3 + ic2) 7 ≤ σ (3 + ic2) 6 ∧ σ (3 + ic2) 6 ≤ 99) ∧ 0 ≤ (0 : Int) ∧ (0 : Int) ≤ 1000 ∧ 0 ≤ σ (3 + ic2) 11 ∧ σ (3 + ic2) 11 ≤ t0 ∧ ((ic2 : Int) < σ 0 5 → 10 ≤ σ (3 + ic2) 1 ∧ σ (3 + ic2) 1 ≤ 40 ∧ (σ (3 + ic2) 2 = 2 ∨ σ (3 + ic2) 2 = 4) ∧ 10 ≤ σ (3 + ic2) 4 ∧ σ (3 + ic2) 4 ≤ σ (3 + ic2) 1 ∧ (12 < σ 1 5 → σ (3 + ic2) 5 = 0))
      omega
    have hE2 : Ev σ σp13 := by rw [eR]; exact Ev_C (by omega) (Int.le_refl _)
    have h15 : σp13 1 5 = σ 1 5 := by rw [eR, upR_n (by omega)]
    have hO2 : okA (t0 + 1) (σp13 1 5) q σp13 := by
      rw [h15]
      exact okA_mono hO1 (by omega) (by omega)
    exact W.iret (v := zI (σ (3 + ic2) 10)) hx hb hr (fun t9 ht hW => ⟨⟨_, (q, σp13), rfl, ⟨_, rfl, ⟨hO2, hE2⟩⟩, Wd_mk (wP_left hP) hE0 hS ht hW⟩, hS.F ht⟩) hS.2.2 dX7_rope_17

set_option maxRecDepth 100000 in
theorem vt54_X7_table : ∀ w ∈ (vx_atS RX7 54 "java/lang/IllegalArgumentException" ["java/lang/RuntimeException", "java/lang/Exception"]).filter goodWord, w ∈ wsX7_table := by decide +kernel
set_option maxHeartbeats 4000000 in
set_option maxRecDepth 100000 in
/-- X7_table -/
theorem c_X7_table (l : Launch) (hlT : l.stackTraces = false) (D : va_G) (cy : Nat → ClassId) (a q : Nat → Nat) (σ : Nat → Nat → Int) (sz : Nat) (n0 : Int) (hn0 : rg n0) (ten : Int) (hten : rg ten) (twenty : Int) (htwenty : rg twenty) (thirty : Int) (hthirty : rg thirty) (forty : Int) (hforty : rg forty) (t0 : Int) (hO : okA t0 (σ 1 5) q σ) (ht9 : t0 < 1000000) : vx_Met l yX7_table wsX7_table ({ frames := 10, cells := 2, slots := 12, locals := 400 }) (va_Pc [.ref (a 0), .int (zI (n0)), .int (zI (ten)), .int (zI (twenty)), .int (zI (thirty)), .int (zI (forty))] (fun U => U.heap.size = sz ∧ Wd D cy a q σ U)) (va_Qi (fun (r : Int32) (u : ((Nat → Nat) × (Nat → Nat → Int))) => ∃ z : Int, r = zI z ∧ (okA (t0 + 1) (u.2 1 5) u.1 u.2 ∧ Ev σ u.2)) (fun (u : ((Nat → Nat) × (Nat → Nat → Int))) t => Wd D cy a u.1 u.2 t) (wF a sz)) (vx_X (fun (_ : Unit) => n0 < 0 ∨ σ 0 5 ≤ n0 ∨ ¬ (0 ≤ forty ∧ forty ≤ thirty ∧ thirty ≤ twenty ∧ twenty ≤ ten ∧ ten ≤ 99)) (fun E _ _ => okE E) (fun _ => False)) 2 12 (wF a sz) := by
  refine vx_ofW (cc := cX7_table) (maxL := 7) (ret := (some .int)) (by decide) rfl ?_
  intro p e s m args below meth c s₁ B hml hexc hpc0
  obtain ⟨rfl, hsz, hW0⟩ := hpc0
  have hx := B.exec
  have hb := B.bytes
  have hr := B.returns
  have hts := atoms_spec (ws := wsX7_table) B.pre
  have hown : s.vm.findClass RX7 = some m.cls := findClass_of_methodNamed B.named
  have hlocks := B.notSynchronized
  subst hsz
  obtain ⟨hP00, hE0⟩ := id hW0
  obtain ⟨hK, hinj, hU0, hN0, hstr, hnest⟩ := id hE0
  have hP : va_P D vwCl (wld cy a q σ ++ []) s.heap := by rw [List.append_nil]; exact hP00
  have hD : va_D (wF a s.heap.size) (wld cy a q σ ++ []) := wD_of hinj
  have hA : ∀ x : Nat, s.heap.size ≤ x → wF a s.heap.size x := fun _ h => Or.inr h
  have hS : va_S (wF a s.heap.size) s.heap s.heap [] := va_S.rf
  have hk0 : ∀ x : Nat, x < s.heap.size → s.heap[x]? = s.heap[x]? := fun _ _ => rfl
  have hl := lv_entry ([.ref (a 0), .int (zI (n0)), .int (zI (ten)), .int (zI (twenty)), .int (zI (thirty)), .int (zI (forty))]) (n := 7) (Nat.le_of_ble_eq_true rfl)
  rw [lg_entry_eq]
  generalize (lg_sl ([.ref (a 0), .int (zI (n0)), .int (zI (ten)), .int (zI (twenty)), .int (zI (thirty)), .int (zI (forty))]) ++ List.replicate (7 - (lg_sl ([.ref (a 0), .int (zI (n0)), .int (zI (ten)), .int (zI (twenty)), .int (zI (thirty)), .int (zI (forty))])).length) Slot.unset).toArray = ls at hl ⊢
  have hl : lv_has ls 7 [(0, .ref (a 0)), (1, .int (zI (n0))), (2, .int (zI (ten))), (3, .int (zI (twenty))), (4, .int (zI (thirty))), (5, .int (zI (forty)))] := hl
  have k10 := hts (.fieldLink RX7 10 "Slewfree" "weather" "LSlewfree$Weather;") (by decide +kernel)
  have k72 := hts (.fieldLink RX7 72 "Slewfree$Crane" "radius" "I") (by decide +kernel)
  have k92 := hts (.fieldLink RX7 92 "Slewfree$Crane" "ten" "I") (by decide +kernel)
  have k95 := hts (.fieldLink RX7 95 "Slewfree$Crane" "twenty" "I") (by decide +kernel)
  have k98 := hts (.fieldLink RX7 98 "Slewfree$Crane" "thirty" "I") (by decide +kernel)
  have k101 := hts (.fieldLink RX7 101 "Slewfree$Crane" "forty" "I") (by decide +kernel)
  have k104 := hts (.fieldLink RX7 104 "Slewfree$Weather" "wind" "I") (by decide +kernel)
  have inX0 : ∀ w ∈ u_ws RX0 TX0 12, w ∈ wsX7_table := by decide +kernel
  have inX5 : ∀ w ∈ u_ws RX5 TX5 7, w ∈ wsX7_table := by decide +kernel
  have inX7 : ∀ w ∈ u_ws RX7 TX7 9, w ∈ wsX7_table := by decide +kernel
  obtain ⟨oS, oW, oC, oZ, oM, oL, oP, oQ, oH⟩ := id hO
  unfold okS at oS; unfold okW at oW; unfold okL at oL
  refine lv_aload_n hx hb dX7_table_0 rfl (lv_at hl 0 rfl) ?_
  refine lv_iload_n hx hb dX7_table_1 rfl (lv_at hl 1 rfl) ?_
  refine vx_callr (vx_runV (As := [.int (zI (n0))]) (rest := []) ⟨hx, hb, hml, hown, hts⟩ (c_X7_craneAt l hlT D cy a q σ s.heap.size (n0) (by omega) (by first | assumption | omega)) (cwV 1 hts gX7_table_X7_craneAt rfl rfl rfl (by decide +kernel) ⟨Nat.le_of_ble_eq_true rfl, Nat.le_of_ble_eq_true rfl⟩) ⟨Wd_blind, va_recv hK hP (ci := 9) (q0 := 0) rfl wg_S, fun U hU hW => ⟨rfl, by rw [hU], Wd_mk (wP_left hP) hE0 hS hU hW⟩⟩ rfl rfl hl.1 rfl (lv_room (Nat.le_of_ble_eq_true rfl)) dX7_table_2 ⟨(show 0 + 1 ≤ 2 by omega), (show 0 + 6 ≤ 12 by omega)⟩) hS (fun _ _ h => h.elim) (fun _ h => wF_mono hS.1 _ h) (fun _ _ h => h.elim) (fun E9 ce9 q9 u9 t9 H locs ht hvm hpx hE hz hk hS1 hce hcv hcl => ?_) (fun u9 ra9 t9 H locs ht hvm hw hB hz hk hS1 => ?_)
  · skip
    refine vx_widen (k := 2) (n := 12) (by omega) (by omega) ?_
    exact vx_out (fun x h => (hexc x h).elim) hlocks hce hcv hcl (fun t9 ht9 hvm9 => ⟨(), (by first | exact hpx | omega), hE, vF_R ht9 (Nat.le_trans hS.1 hz) (fun x h9 => (hk x (Nat.lt_of_lt_of_le h9 hS.1) (fun h => h)).trans (hk0 x h9))⟩) hS1.2.2 (Nat.le_refl _) (Nat.le_refl _)
  · skip
    have hP := hP.kept (fun k x hk9 => hk x.1 ((hP k x hk9).lt) (fun h => h))
    have hk0 : ∀ x : Nat, x < s.heap.size → H[x]? = s.heap[x]? := fun x h9 => (hk x (Nat.lt_of_lt_of_le h9 hS.1) (fun h => h)).trans (hk0 x h9)
    have hS := hS1
    subst hB
    obtain ⟨ic2, eic2⟩ : ∃ z : Nat, z = u9 := ⟨u9, rfl⟩
    rw [← eic2] at hw ⊢
    have hi2 := hw
    have oC_a := oC ic2 (by omega); unfold okC at oC_a
    refine lv_astore (lv' := [(6, .ref (a (3 + ic2))), (0, .ref (a 0)), (1, .int (zI (n0))), (2, .int (zI (ten))), (3, .int (zI (twenty))), (4, .int (zI (thirty))), (5, .int (zI (forty)))]) hx hb dX7_table_5 hl (by decide) rfl (fun ls hl => ?_)
    refine lv_iload_n hx hb dX7_table_7 rfl (lv_at hl 3 rfl) ?_
    refine lv_iconst (v := zI 0) hx hb dX7_table_8 rfl ?_
    refine lv_bipush (v := zI 99) hx hb dX7_table_9 (by decide +kernel) ?_
    refine va_calli (va_runS (As := [.int (zI (ten)), .int (zI (0)), .int (zI (99))]) (rest := []) ⟨hx, hb, hml, hown, hts⟩ (c_X7_isOutside l (ten) (by omega) (0) (by omega) (99) (by omega)) (va_cwS 3 hts gX7_table_X7_isOutside rfl rfl rfl (by decide +kernel) ⟨Nat.le_of_ble_eq_true rfl, Nat.le_of_ble_eq_true rfl⟩) ⟨fun _ _ _ _ h => h, fun _ _ _ => ⟨rfl, trivial⟩⟩ rfl rfl hl.1 rfl (lv_room (Nat.le_of_ble_eq_true rfl)) dX7_table_11 ⟨(show 0 + 1 + 0 ≤ 2 by omega), (show 0 + 6 + 0 ≤ 12 by omega)⟩) hS (fun _ _ h => h.elim) (fun _ h => h.elim) (fun rv11 u9 t9 H locs ht hvm hw hB hz hk hS1 => ?_)
    have hP := hP.kept (fun k x hk9 => hk x.1 ((hP k x hk9).lt) (fun h => h))
    have hk0 : ∀ x : Nat, x < s.heap.size → H[x]? = s.heap[x]? := fun x h9 => (hk x (Nat.lt_of_lt_of_le h9 hS.1) (fun h => h)).trans (hk0 x h9)
    have hS := hS1
    rcases hw with ⟨rfl, bd11⟩ | ⟨rfl, bd11⟩
    · skip
      refine z_if_ne (tgt := 47) hx hb dX7_table_14 (by decide) (by decide) (fun _ => ?_) (fun cd14 => absurd cd14 (by decide))
      obtain ⟨sa9, hsa9⟩ := hstr (90, "loads are 0 to 99, none more than the one ahead of it") (by decide)
      exact vx_throwS (names := ["java/lang/RuntimeException", "java/lang/Exception"]) (sa := sa9) hx hb hlT hown (by decide +kernel) (by decide +kernel) (hts (.classLink RX7 50 "java/lang/IllegalArgumentException") (by decide +kernel)) (hts (.initialized "java/lang/IllegalArgumentException") (by decide +kernel)) hsa9 (vx_hat (fun w h => hts w (vt54_X7_table w h)) vf54 hnest.2.2.1.bad) vg54 hU0 hN0 hS (by rw [hml]; exact hl.1) dX7_table_47 dX7_table_50 dX7_table_51 dX7_table_53 dX7_table_56 (fun x h => (hexc x h).elim) (Nat.le_of_ble_eq_true rfl) (Nat.le_of_ble_eq_true rfl) (show 0 + 1 + 0 + 1 ≤ 2 by omega) (show 0 + 6 + 0 + 6 ≤ 12 by omega) hlocks (fun t9 hvm9 hz9 hk9 => ⟨(), (by omega), okE_A, Nat.le_trans hS.1 hz9, fun x h9 _ => (hk9 x (Nat.lt_of_lt_of_le h9 hS.1)).trans (hk0 x h9)⟩) hS.2.2 (by omega) (by omega)
    · skip
      refine z_if_ne (tgt := 47) hx hb dX7_table_14 (by decide) (by decide) (fun cd14 => absurd cd14 (by decide)) (fun _ => ?_)
      refine lv_iload_n hx hb dX7_table_17 rfl (lv_at hl 4 rfl) ?_
      refine lv_iconst (v := zI 0) hx hb dX7_table_18 rfl ?_
      refine lv_iload_n hx hb dX7_table_19 rfl (lv_at hl 3 rfl) ?_
      refine va_calli (va_runS (As := [.int (zI (twenty)), .int (zI (0)), .int (zI (ten))]) (rest := []) ⟨hx, hb, hml, hown, hts⟩ (c_X7_isOutside l (twenty) (by omega) (0) (by omega) (ten) (by omega)) (va_cwS 3 hts gX7_table_X7_isOutside rfl rfl rfl (by decide +kernel) ⟨Nat.le_of_ble_eq_true rfl, Nat.le_of_ble_eq_true rfl⟩) ⟨fun _ _ _ _ h => h, fun _ _ _ => ⟨rfl, trivial⟩⟩ rfl rfl hl.1 rfl (lv_room (Nat.le_of_ble_eq_true rfl)) dX7_table_20 ⟨(show 0 + 1 + 0 + 0 ≤ 2 by omega), (show 0 + 6 + 0 + 0 ≤ 12 by omega)⟩) hS (fun _ _ h => h.elim) (fun _ h => h.elim) (fun rv20 u9 t9 H locs ht hvm hw hB hz hk hS1 => ?_)
      have hP := hP.kept (fun k x hk9 => hk x.1 ((hP k x hk9).lt) (fun h => h))
      have hk0 : ∀ x : Nat, x < s.heap.size → H[x]? = s.heap[x]? := fun x h9 => (hk x (Nat.lt_of_lt_of_le h9 hS.1) (fun h => h)).trans (hk0 x h9)
      have hS := hS1
      rcases hw with ⟨rfl, bd20⟩ | ⟨rfl, bd20⟩
      · skip
        refine z_if_ne (tgt := 47) hx hb dX7_table_23 (by decide) (by decide) (fun _ => ?_) (fun cd23 => absurd cd23 (by decide))
        obtain ⟨sa9, hsa9⟩ := hstr (90, "loads are 0 to 99, none more than the one ahead of it") (by decide)
        exact vx_throwS (names := ["java/lang/RuntimeException", "java/lang/Exception"]) (sa := sa9) hx hb hlT hown (by decide +kernel) (by decide +kernel) (hts (.classLink RX7 50 "java/lang/IllegalArgumentException") (by decide +kernel)) (hts (.initialized "java/lang/IllegalArgumentException") (by decide +kernel)) hsa9 (vx_hat (fun w h => hts w (vt54_X7_table w h)) vf54 hnest.2.2.1.bad) vg54 hU0 hN0 hS (by rw [hml]; exact hl.1) dX7_table_47 dX7_table_50 dX7_table_51 dX7_table_53 dX7_table_56 (fun x h => (hexc x h).elim) (Nat.le_of_ble_eq_true rfl) (Nat.le_of_ble_eq_true rfl) (show 0 + 1 + 0 + 0 + 1 ≤ 2 by omega) (show 0 + 6 + 0 + 0 + 6 ≤ 12 by omega) hlocks (fun t9 hvm9 hz9 hk9 => ⟨(), (by omega), okE_A, Nat.le_trans hS.1 hz9, fun x h9 _ => (hk9 x (Nat.lt_of_lt_of_le h9 hS.1)).trans (hk0 x h9)⟩) hS.2.2 (by omega) (by omega)
      · skip
        refine z_if_ne (tgt := 47) hx hb dX7_table_23 (by decide) (by decide) (fun cd23 => absurd cd23 (by decide)) (fun _ => ?_)
        refine lv_iload hx hb dX7_table_26 (lv_at hl 5 rfl) ?_
        refine lv_iconst (v := zI 0) hx hb dX7_table_28 rfl ?_
        refine lv_iload_n hx hb dX7_table_29 rfl (lv_at hl 4 rfl) ?_
        refine va_calli (va_runS (As := [.int (zI (thirty)), .int (zI (0)), .int (zI (twenty))]) (rest := []) ⟨hx, hb, hml, hown, hts⟩ (c_X7_isOutside l (thirty) (by omega) (0) (by omega) (twenty) (by omega)) (va_cwS 3 hts gX7_table_X7_isOutside rfl rfl rfl (by decide +kernel) ⟨Nat.le_of_ble_eq_true rfl, Nat.le_of_ble_eq_true rfl⟩) ⟨fun _ _ _ _ h => h, fun _ _ _ => ⟨rfl, trivial⟩⟩ rfl rfl hl.1 rfl (lv_room (Nat.le_of_ble_eq_true rfl)) dX7_table_30 ⟨(show 0 + 1 + 0 + 0 + 0 ≤ 2 by omega), (show 0 + 6 + 0 + 0 + 0 ≤ 12 by omega)⟩) hS (fun _ _ h => h.elim) (fun _ h => h.elim) (fun rv30 u9 t9 H locs ht hvm hw hB hz hk hS1 => ?_)
        have hP := hP.kept (fun k x hk9 => hk x.1 ((hP k x hk9).lt) (fun h => h))
        have hk0 : ∀ x : Nat, x < s.heap.size → H[x]? = s.heap[x]? := fun x h9 => (hk x (Nat.lt_of_lt_of_le h9 hS.1) (fun h => h)).trans (hk0 x h9)
        have hS := hS1
        rcases hw with ⟨rfl, bd30⟩ | ⟨rfl, bd30⟩
        · skip
          refine z_if_ne (tgt := 47) hx hb dX7_table_33 (by decide) (by decide) (fun _ => ?_) (fun cd33 => absurd cd33 (by decide))
          obtain ⟨sa9, hsa9⟩ := hstr (90, "loads are 0 to 99, none more than the one ahead of it") (by decide)
          exact vx_throwS (names := ["java/lang/RuntimeException", "java/lang/Exception"]) (sa := sa9) hx hb hlT hown (by decide +kernel) (by decide +kernel) (hts (.classLink RX7 50 "java/lang/IllegalArgumentException") (by decide +kernel)) (hts (.initialized "java/lang/IllegalArgumentException") (by decide +kernel)) hsa9 (vx_hat (fun w h => hts w (vt54_X7_table w h)) vf54 hnest.2.2.1.bad) vg54 hU0 hN0 hS (by rw [hml]; exact hl.1) dX7_table_47 dX7_table_50 dX7_table_51 dX7_table_53 dX7_table_56 (fun x h => (hexc x h).elim) (Nat.le_of_ble_eq_true rfl) (Nat.le_of_ble_eq_true rfl) (show 0 + 1 + 0 + 0 + 0 + 1 ≤ 2 by omega) (show 0 + 6 + 0 + 0 + 0 + 6 ≤ 12 by omega) hlocks (fun t9 hvm9 hz9 hk9 => ⟨(), (by omega), okE_A, Nat.le_trans hS.1 hz9, fun x h9 _ => (hk9 x (Nat.lt_of_lt_of_le h9 hS.1)).trans (hk0 x h9)⟩) hS.2.2 (by omega) (by omega)
        · skip
          refine z_if_ne (tgt := 47) hx hb dX7_table_33 (by decide) (by decide) (fun cd33 => absurd cd33 (by decide)) (fun _ => ?_)
          refine lv_iload hx hb dX7_table_36 (lv_at hl 6 rfl) ?_
          refine lv_iconst (v := zI 0) hx hb dX7_table_38 rfl ?_
          refine lv_iload hx hb dX7_table_39 (lv_at hl 5 rfl) ?_
          refine va_calli (va_runS (As := [.int (zI (forty)), .int (zI (0)), .int (zI (thirty))]) (rest := []) ⟨hx, hb, hml, hown, hts⟩ (c_X7_isOutside l (forty) (by omega) (0) (by omega) (thirty) (by omega)) (va_cwS 3 hts gX7_table_X7_isOutside rfl rfl rfl (by decide +kernel) ⟨Nat.le_of_ble_eq_true rfl, Nat.le_of_ble_eq_true rfl⟩) ⟨fun _ _ _ _ h => h, fun _ _ _ => ⟨rfl, trivial⟩⟩ rfl rfl hl.1 rfl (lv_room (Nat.le_of_ble_eq_true rfl)) dX7_table_41 ⟨(show 0 + 1 + 0 + 0 + 0 + 0 ≤ 2 by omega), (show 0 + 6 + 0 + 0 + 0 + 0 ≤ 12 by omega)⟩) hS (fun _ _ h => h.elim) (fun _ h => h.elim) (fun rv41 u9 t9 H locs ht hvm hw hB hz hk hS1 => ?_)
          have hP := hP.kept (fun k x hk9 => hk x.1 ((hP k x hk9).lt) (fun h => h))
          have hk0 : ∀ x : Nat, x < s.heap.size → H[x]? = s.heap[x]? := fun x h9 => (hk x (Nat.lt_of_lt_of_le h9 hS.1) (fun h => h)).trans (hk0 x h9)
          have hS := hS1
          rcases hw with ⟨rfl, bd41⟩ | ⟨rfl, bd41⟩
          · skip
            refine z_if_eq (tgt := 57) hx hb dX7_table_44 (by decide) (by decide) (fun cd44 => absurd cd44 (by decide)) (fun _ => ?_)
            obtain ⟨sa9, hsa9⟩ := hstr (90, "loads are 0 to 99, none more than the one ahead of it") (by decide)
            exact vx_throwS (names := ["java/lang/RuntimeException", "java/lang/Exception"]) (sa := sa9) hx hb hlT hown (by decide +kernel) (by decide +kernel) (hts (.classLink RX7 50 "java/lang/IllegalArgumentException") (by decide +kernel)) (hts (.initialized "java/lang/IllegalArgumentException") (by decide +kernel)) hsa9 (vx_hat (fun w h => hts w (vt54_X7_table w h)) vf54 hnest.2.2.1.bad) vg54 hU0 hN0 hS (by rw [hml]; exact hl.1) dX7_table_47 dX7_table_50 dX7_table_51 dX7_table_53 dX7_table_56 (fun x h => (hexc x h).elim) (Nat.le_of_ble_eq_true rfl) (Nat.le_of_ble_eq_true rfl) (show 0 + 1 + 0 + 0 + 0 + 0 + 1 ≤ 2 by omega) (show 0 + 6 + 0 + 0 + 0 + 0 + 6 ≤ 12 by omega) hlocks (fun t9 hvm9 hz9 hk9 => ⟨(), (by omega), okE_A, Nat.le_trans hS.1 hz9, fun x h9 _ => (hk9 x (Nat.lt_of_lt_of_le h9 hS.1)).trans (hk0 x h9)⟩) hS.2.2 (by omega) (by omega)
          · skip
            refine z_if_eq (tgt := 57) hx hb dX7_table_44 (by decide) (by decide) (fun _ => ?_) (fun cd44 => absurd cd44 (by decide))
            refine lv_aload hx hb dX7_table_57 (lv_at hl 0 rfl) ?_
            refine lv_iload_n hx hb dX7_table_59 rfl (lv_at hl 3 rfl) ?_
            refine w_put (ty := .int) (z := ten) (C := RX0) (T := TX0) (N := 12) hx hb hts inX0 tyX0 tyX0_ok nmX0 hown hK hP hD hS (3 + ic2) (by omega) (ci := 2) (fs := fC) (fun _ => wc_C (i := ic2) (by first | assumption | omega)) rfl 6 (by decide) k92 (fun _ h9 => h9) rfl (by decide +kernel) rfl rfl (Nat.le_of_ble_eq_true rfl) rfl dX7_table_60 (fun H locs hP hD hS => ?_)
            obtain ⟨σp60, eσp60⟩ : ∃ z, z = up2 σ (3 + ic2) 6 (ten) := ⟨_, rfl⟩
            rw [← eσp60] at hP hD
            refine lv_aload hx hb dX7_table_63 (lv_at hl 0 rfl) ?_
            refine lv_iload_n hx hb dX7_table_65 rfl (lv_at hl 4 rfl) ?_
            refine w_put (ty := .int) (z := twenty) (C := RX0) (T := TX0) (N := 12) hx hb hts inX0 tyX0 tyX0_ok nmX0 hown hK hP hD hS (3 + ic2) (by omega) (ci := 2) (fs := fC) (fun _ => wc_C (i := ic2) (by first | assumption | omega)) rfl 7 (by decide) k95 (fun _ h9 => h9) rfl (by decide +kernel) rfl rfl (Nat.le_of_ble_eq_true rfl) rfl dX7_table_66 (fun H locs hP hD hS => ?_)
            obtain ⟨σp66, eσp66⟩ : ∃ z, z = up2 σp60 (3 + ic2) 7 (twenty) := ⟨_, rfl⟩
            rw [← eσp66] at hP hD
            refine lv_aload hx hb dX7_table_69 (lv_at hl 0 rfl) ?_
            refine lv_iload hx hb dX7_table_71 (lv_at hl 5 rfl) ?_
            refine w_put (ty := .int) (z := thirty) (C := RX0) (T := TX0) (N := 12) hx hb hts inX0 tyX0 tyX0_ok nmX0 hown hK hP hD hS (3 + ic2) (by omega) (ci := 2) (fs := fC) (fun _ => wc_C (i := ic2) (by first | assumption | omega)) rfl 8 (by decide) k98 (fun _ h9 => h9) rfl (by decide +kernel) rfl rfl (Nat.le_of_ble_eq_true rfl) rfl dX7_table_73 (fun H locs hP hD hS => ?_)
            obtain ⟨σp73, eσp73⟩ : ∃ z, z = up2 σp66 (3 + ic2) 8 (thirty) := ⟨_, rfl⟩
            rw [← eσp73] at hP hD
            refine lv_aload hx hb dX7_table_76 (lv_at hl 0 rfl) ?_
            refine lv_iload hx hb dX7_table_78 (lv_at hl 6 rfl) ?_
            refine w_put (ty := .int) (z := forty) (C := RX0) (T := TX0) (N := 12) hx hb hts inX0 tyX0 tyX0_ok nmX0 hown hK hP hD hS (3 + ic2) (by omega) (ci := 2) (fs := fC) (fun _ => wc_C (i := ic2) (by first | assumption | omega)) rfl 9 (by decide) k101 (fun _ h9 => h9) rfl (by decide +kernel) rfl rfl (Nat.le_of_ble_eq_true rfl) rfl dX7_table_80 (fun H locs hP hD hS => ?_)
            obtain ⟨σp80, eσp80⟩ : ∃ z, z = up2 σp73 (3 + ic2) 9 (forty) := ⟨_, rfl⟩
            rw [← eσp80] at hP hD
            refine lv_aload hx hb dX7_table_83 (lv_at hl 0 rfl) ?_
            refine lv_aload hx hb dX7_table_85 (lv_at hl 0 rfl) ?_
            refine va_get (D := D) (ci := 2) (v := .int (zI (σ (3 + ic2) 4))) (C := RX0) (T := TX0) (N := 12) hx hb hts inX0 hown hK hP (3 + ic2) (wg_C (i := ic2) (by first | assumption | omega)) rfl 4 (by decide) k72 (fun _ h9 => h9) (by show some (Value.int (zI (σp80 (3 + ic2) 4))) = some (Value.int (zI (σ (3 + ic2) 4))); rw [eσp80, g_fe (by decide), eσp73, g_fe (by decide), eσp66, g_fe (by decide), eσp60, g_fe (by decide)]) dX7_table_87 ?_
            refine lv_aload_n hx hb dX7_table_90 rfl (lv_at hl 1 rfl) ?_
            refine va_get (D := D) (ci := 9) (v := .ref (a 1)) (C := RX7) (T := TX7) (N := 9) hx hb hts inX7 hown hK hP 0 wg_S rfl 0 (by decide) k10 (fun _ h9 => h9) rfl dX7_table_91 ?_
            refine va_get (D := D) (ci := 7) (v := .int (zI (σ 1 5))) (C := RX5) (T := TX5) (N := 7) hx hb hts inX5 hown hK hP 1 wg_W rfl 5 (by decide) k104 (fun _ h9 => h9) (by show some (Value.int (zI (σp80 1 5))) = some (Value.int (zI (σ 1 5))); rw [eσp80, g_ne (by omega), eσp73, g_ne (by omega), eσp66, g_ne (by omega), eσp60, g_ne (by omega)]) dX7_table_94 ?_
            have fT2 : σp80 (3 + ic2) 2 = σ (3 + ic2) 2 := by rw [eσp80, g_fe (by decide), eσp73, g_fe (by decide), eσp66, g_fe (by decide), eσp60, g_fe (by decide)]
            have fT6 : σp80 (3 + ic2) 6 = ten := by rw [eσp80, g_fe (by decide), eσp73, g_fe (by decide), eσp66, g_fe (by decide), eσp60, g_eq]
            have fT7 : σp80 (3 + ic2) 7 = twenty := by rw [eσp80, g_fe (by decide), eσp73, g_fe (by decide), eσp66, g_eq]
            have fT8 : σp80 (3 + ic2) 8 = thirty := by rw [eσp80, g_fe (by decide), eσp73, g_eq]
            have fT9 : σp80 (3 + ic2) 9 = forty := by rw [eσp80, g_eq]
            refine va_calli (va_runV (As := [.int (zI (σ (3 + ic2) 4)), .int (zI (σ 1 5))]) (rest := []) ⟨hx, hb, hml, hown, hts⟩ (c_X0_capacityAt l D cy a q σp80 H.size ic2 (by first | assumption | omega) (σ (3 + ic2) 4) (by omega) (σ 1 5) (by omega) (by first | assumption | omega) (by first | assumption | omega) (by rw [fT6, fT7, fT8, fT9]; omega) (by rw [fT2]; omega)) (cwV 2 hts gX7_table_X0_capacityAt rfl rfl rfl (by decide +kernel) ⟨Nat.le_of_ble_eq_true rfl, Nat.le_of_ble_eq_true rfl⟩) ⟨Wd_blind, va_recv hK hP (ci := 2) (q0 := (3 + ic2)) rfl (wg_C (i := ic2) (by first | assumption | omega)), fun U hU hW => ⟨rfl, by rw [hU], Wd_mk (wP_left hP) hE0 hS hU hW⟩⟩ rfl rfl hl.1 rfl (lv_room (Nat.le_of_ble_eq_true rfl)) dX7_table_97 ⟨(show 0 + 1 + 0 + 0 + 0 + 0 + 0 ≤ 2 by omega), (show 0 + 6 + 0 + 0 + 0 + 0 + 0 ≤ 12 by omega)⟩) hS (fun _ _ h => h.elim) (fun _ h => wF_mono hS.1 _ h) (fun rv97 u9 t9 H locs ht hvm hw hB hz hk hS1 => ?_)
            have hP := hP.kept (fun k x hk9 => hk x.1 ((hP k x hk9).lt) (fun h => h))
            have hS := hS1
            obtain rfl := hw
            refine vx_ret ?_
            refine W.widen (k := 2) (n := 12) (by omega) (by omega) ?_
            have eR : σp80 = upR σ (3 + ic2) (upr (upr (upr (upr (σ (3 + ic2)) 6 (ten)) 7 (twenty)) 8 (thirty)) 9 (forty)) := by
              rw [eσp80, eσp73, eσp66, eσp60]
              simp only [up2, upR_s, upR_R]
            have hO1 : okA t0 (σ 1 5) q σp80 := by
              rw [eR]
              refine okA_C hO (by omega) ?_
              show σ (3 + ic2) 0 = ic2 ∧ 0 ≤ σ (3 + ic2) 3 ∧ σ (3 + ic2) 3 ≤ 23 ∧ (σ (3 + ic2) 5 = 0 ∨ σ (3 + ic2) 5 = 1) ∧ (0 ≤ (forty : Int) ∧ (forty : Int) ≤ (thirty : Int) ∧ (thirty : Int) ≤ (twenty : Int) ∧ (twenty : Int) ≤ (ten : Int) ∧ (ten : Int) ≤ 99) ∧ 0 ≤ σ (3 + ic2) 10 ∧ σ (3 + ic2) 10 ≤ 1000 ∧ 0 ≤ σ (3 + ic2) 11 ∧ σ (3 + ic2) 11 ≤ t0 ∧ ((ic2 : Int) < σ 0 5 → 10 ≤ σ (3 + ic2) 1 ∧ σ (3 + ic2) 1 ≤ 40 ∧ (σ (3 + ic2) 2 = 2 ∨ σ (3 + ic2) 2 = 4) ∧ 10 ≤ σ (3 + ic2) 4 ∧ σ (3 + ic2) 4 ≤ σ (3 + ic2) 1 ∧ (12 < σ 1 5 → σ (3 + ic2) 5 = 0))
              omega
            have hE2 : Ev σ σp80 := by rw [eR]; exact Ev_C (by omega) (Int.le_refl _)
            have h15 : σp80 1 5 = σ 1 5 := by rw [eR, upR_n (by omega)]
            have hO2 : okA (t0 + 1) (σp80 1 5) q σp80 := by
              rw [h15]
              exact okA_mono hO1 (by omega) (by omega)
            exact W.iret (v := zI (cpF (σp80 (3 + ic2)) (σ (3 + ic2) 4) (σ 1 5))) hx hb hr (fun t9 ht hW => ⟨⟨_, (q, σp80), rfl, ⟨_, rfl, ⟨hO2, hE2⟩⟩, Wd_mk (wP_left hP) hE0 hS ht hW⟩, hS.F ht⟩) hS.2.2 dX7_table_100

set_option maxHeartbeats 4000000 in
set_option maxRecDepth 100000 in
/-- X7_knock -/
theorem c_X7_knock (l : Launch) (D : va_G) (cy : Nat → ClassId) (a q : Nat → Nat) (σ : Nat → Nat → Int) (sz : Nat) (t0 : Int) (hO : okA t0 (σ 1 5) q σ) (ht9 : t0 < 1000000) : Met l yX7_knock wsX7_knock ({ frames := 7, cells := 0, slots := 0, locals := 100 }) (va_Pc [.ref (a 0)] (fun U => U.heap.size = sz ∧ Wd D cy a q σ U)) (va_Qi (fun (r : Int32) (u : ((Nat → Nat) × (Nat → Nat → Int))) => ∃ z : Int, r = zI z ∧ (okA (t0 + 1) (u.2 1 5) u.1 u.2 ∧ Ev σ u.2)) (fun (u : ((Nat → Nat) × (Nat → Nat → Int))) t => Wd D cy a u.1 u.2 t) (wF a sz)) 0 0 (wF a sz) := by
  refine Met.ofW (cc := cX7_knock) (maxL := 1) (ret := (some .int)) (by decide) rfl ?_
  intro p e s m args below meth c s₁ B hml hpc0
  obtain ⟨rfl, hsz, hW0⟩ := hpc0
  have hx := B.exec
  have hb := B.bytes
  have hr := B.returns
  have hts := atoms_spec (ws := wsX7_knock) B.pre
  have hown : s.vm.findClass RX7 = some m.cls := findClass_of_methodNamed B.named
  have hlocks := B.notSynchronized
  subst hsz
  obtain ⟨hP00, hE0⟩ := id hW0
  obtain ⟨hK, hinj, hU0, hN0, hstr, hnest⟩ := id hE0
  have hP : va_P D vwCl (wld cy a q σ ++ []) s.heap := by rw [List.append_nil]; exact hP00
  have hD : va_D (wF a s.heap.size) (wld cy a q σ ++ []) := wD_of hinj
  have hA : ∀ x : Nat, s.heap.size ≤ x → wF a s.heap.size x := fun _ h => Or.inr h
  have hS : va_S (wF a s.heap.size) s.heap s.heap [] := va_S.rf
  have hk0 : ∀ x : Nat, x < s.heap.size → s.heap[x]? = s.heap[x]? := fun _ _ => rfl
  have hl := lv_entry ([.ref (a 0)]) (n := 1) (Nat.le_of_ble_eq_true rfl)
  rw [lg_entry_eq]
  generalize (lg_sl ([.ref (a 0)]) ++ List.replicate (1 - (lg_sl ([.ref (a 0)])).length) Slot.unset).toArray = ls at hl ⊢
  have hl : lv_has ls 1 [(0, .ref (a 0))] := hl
  have k238 := hts (.fieldLink RX7 238 "Slewfree" "refusedCount" "I") (by decide +kernel)
  have inX7 : ∀ w ∈ u_ws RX7 TX7 9, w ∈ wsX7_knock := by decide +kernel
  obtain ⟨oS, oW, oC, oZ, oM, oL, oP, oQ, oH⟩ := id hO
  unfold okS at oS; unfold okW at oW; unfold okL at oL
  refine lv_aload_n hx hb dX7_knock_0 rfl (lv_at hl 0 rfl) ?_
  refine lv_dup hx hb dX7_knock_1 rfl ?_
  refine va_get (D := D) (ci := 9) (v := .int (zI (σ 0 8))) (C := RX7) (T := TX7) (N := 9) hx hb hts inX7 hown hK hP 0 wg_S rfl 8 (by decide) k238 (fun _ h9 => h9) rfl dX7_knock_2 ?_
  refine lv_iconst (v := zI 1) hx hb dX7_knock_5 rfl ?_
  refine z_iadd hx hb dX7_knock_6 ?_
  refine w_put (ty := .int) (z := (σ 0 8) + 1) (C := RX7) (T := TX7) (N := 9) hx hb hts inX7 tyX7 tyX7_ok nmX7 hown hK hP hD hS 0 (by omega) (ci := 9) (fs := fS a) (fun _ => wc_S) rfl 8 (by decide) k238 (fun _ h9 => h9) rfl (by decide +kernel) rfl rfl (Nat.le_of_ble_eq_true rfl) rfl dX7_knock_7 (fun H locs hP hD hS => ?_)
  obtain ⟨σp7, eσp7⟩ : ∃ z, z = up2 σ 0 8 ((σ 0 8) + 1) := ⟨_, rfl⟩
  rw [← eσp7] at hP hD
  refine lv_aload_n hx hb dX7_knock_10 rfl (lv_at hl 0 rfl) ?_
  refine va_get (D := D) (ci := 9) (v := .int (zI ((σ 0 8) + 1))) (C := RX7) (T := TX7) (N := 9) hx hb hts inX7 hown hK hP 0 wg_S rfl 8 (by decide) k238 (fun _ h9 => h9) (by show some (Value.int (zI (σp7 0 8))) = some (Value.int (zI ((σ 0 8) + 1))); rw [eσp7, g_eq]) dX7_knock_11 ?_
  have hO2 : okA (t0 + 1) (σp7 1 5) q σp7 := by
    rw [eσp7, up2_n (by omega)]
    refine okA_S (okA_mono hO (by omega) (by omega)) ?_ rfl
    show 0 ≤ σ 0 5 ∧ σ 0 5 ≤ 3 ∧ 0 ≤ σ 0 6 ∧ σ 0 6 ≤ 6 ∧ 0 ≤ σ 0 7 ∧ σ 0 7 ≤ 6 ∧ 0 ≤ σ 0 8 + 1 ∧ σ 0 8 + 1 ≤ t0 + 1 ∧ 0 ≤ t0 + 1 ∧ t0 + 1 ≤ 1000000
    omega
  have hE2 : Ev σ σp7 := by rw [eσp7]; exact Ev_S (show σ 0 8 ≤ σ 0 8 + 1 by omega) (Int.le_refl _)
  exact W.iret (v := zI ((σ 0 8) + 1)) hx hb hr (fun t9 ht hW => ⟨⟨_, (q, σp7), rfl, ⟨_, rfl, ⟨hO2, hE2⟩⟩, Wd_mk (wP_left hP) hE0 hS ht hW⟩, hS.F ht⟩) hS.2.2 dX7_knock_14

set_option maxRecDepth 100000 in
theorem vt54_X7_wind : ∀ w ∈ (vx_atS RX7 54 "java/lang/IllegalArgumentException" ["java/lang/RuntimeException", "java/lang/Exception"]).filter goodWord, w ∈ wsX7_wind := by decide +kernel
set_option maxHeartbeats 4000000 in
set_option maxRecDepth 100000 in
/-- X7_wind -/
theorem c_X7_wind (l : Launch) (hlT : l.stackTraces = false) (D : va_G) (cy : Nat → ClassId) (a q : Nat → Nat) (σ : Nat → Nat → Int) (sz : Nat) (ba : Int) (hba : rg ba) (gu : Int) (hgu : rg gu) (di : Int) (hdi : rg di) (t0 : Int) (hO : okA t0 (σ 1 5) q σ) (ht9 : t0 < 1000000) : vx_Met l yX7_wind wsX7_wind ({ frames := 10, cells := 1, slots := 6, locals := 400 }) (va_Pc [.ref (a 0), .int (zI (ba)), .int (zI (gu)), .int (zI (di))] (fun U => U.heap.size = sz ∧ Wd D cy a q σ U)) (va_Qi (fun (r : Int32) (u : ((Nat → Nat) × (Nat → Nat → Int))) => ∃ z : Int, r = zI z ∧ (okA (t0 + 1) (u.2 1 5) u.1 u.2 ∧ Ev σ u.2)) (fun (u : ((Nat → Nat) × (Nat → Nat → Int))) t => Wd D cy a u.1 u.2 t) (wF a sz)) (vx_X (fun (_ : Unit) => True) (fun E _ _ => okE E) (fun _ => False)) 1 6 (wF a sz) := by
  refine vx_ofW (cc := cX7_wind) (maxL := 5) (ret := (some .int)) (by decide) rfl ?_
  intro p e s m args below meth c s₁ B hml hexc hpc0
  obtain ⟨rfl, hsz, hW0⟩ := hpc0
  have hx := B.exec
  have hb := B.bytes
  have hr := B.returns
  have hts := atoms_spec (ws := wsX7_wind) B.pre
  have hown : s.vm.findClass RX7 = some m.cls := findClass_of_methodNamed B.named
  have hlocks := B.notSynchronized
  subst hsz
  obtain ⟨hP00, hE0⟩ := id hW0
  obtain ⟨hK, hinj, hU0, hN0, hstr, hnest⟩ := id hE0
  have hP : va_P D vwCl (wld cy a q σ ++ []) s.heap := by rw [List.append_nil]; exact hP00
  have hD : va_D (wF a s.heap.size) (wld cy a q σ ++ []) := wD_of hinj
  have hA : ∀ x : Nat, s.heap.size ≤ x → wF a s.heap.size x := fun _ h => Or.inr h
  have hS : va_S (wF a s.heap.size) s.heap s.heap [] := va_S.rf
  have hk0 : ∀ x : Nat, x < s.heap.size → s.heap[x]? = s.heap[x]? := fun _ _ => rfl
  have hl := lv_entry ([.ref (a 0), .int (zI (ba)), .int (zI (gu)), .int (zI (di))]) (n := 5) (Nat.le_of_ble_eq_true rfl)
  rw [lg_entry_eq]
  generalize (lg_sl ([.ref (a 0), .int (zI (ba)), .int (zI (gu)), .int (zI (di))]) ++ List.replicate (5 - (lg_sl ([.ref (a 0), .int (zI (ba)), .int (zI (gu)), .int (zI (di))])).length) Slot.unset).toArray = ls at hl ⊢
  have hl : lv_has ls 5 [(0, .ref (a 0)), (1, .int (zI (ba))), (2, .int (zI (gu))), (3, .int (zI (di)))] := hl
  have k10 := hts (.fieldLink RX7 10 "Slewfree" "weather" "LSlewfree$Weather;") (by decide +kernel)
  have k161 := hts (.fieldLink RX7 161 "Slewfree$Weather" "base" "I") (by decide +kernel)
  have k164 := hts (.fieldLink RX7 164 "Slewfree$Weather" "gusts" "I") (by decide +kernel)
  have k167 := hts (.fieldLink RX7 167 "Slewfree$Weather" "direction" "I") (by decide +kernel)
  have inX5 : ∀ w ∈ u_ws RX5 TX5 7, w ∈ wsX7_wind := by decide +kernel
  have inX7 : ∀ w ∈ u_ws RX7 TX7 9, w ∈ wsX7_wind := by decide +kernel
  obtain ⟨oS, oW, oC, oZ, oM, oL, oP, oQ, oH⟩ := id hO
  unfold okS at oS; unfold okW at oW; unfold okL at oL
  refine lv_iload_n hx hb dX7_wind_0 rfl (lv_at hl 1 rfl) ?_
  refine lv_iconst (v := zI 0) hx hb dX7_wind_1 rfl ?_
  refine lv_bipush (v := zI 30) hx hb dX7_wind_2 (by decide +kernel) ?_
  refine va_calli (va_runS (As := [.int (zI (ba)), .int (zI (0)), .int (zI (30))]) (rest := []) ⟨hx, hb, hml, hown, hts⟩ (c_X7_isOutside l (ba) (by omega) (0) (by omega) (30) (by omega)) (va_cwS 3 hts gX7_wind_X7_isOutside rfl rfl rfl (by decide +kernel) ⟨Nat.le_of_ble_eq_true rfl, Nat.le_of_ble_eq_true rfl⟩) ⟨fun _ _ _ _ h => h, fun _ _ _ => ⟨rfl, trivial⟩⟩ rfl rfl hl.1 rfl (lv_room (Nat.le_of_ble_eq_true rfl)) dX7_wind_4 ⟨(show 0 + 0 ≤ 1 by omega), (show 0 + 0 ≤ 6 by omega)⟩) hS (fun _ _ h => h.elim) (fun _ h => h.elim) (fun rv4 u9 t9 H locs ht hvm hw hB hz hk hS1 => ?_)
  have hP := hP.kept (fun k x hk9 => hk x.1 ((hP k x hk9).lt) (fun h => h))
  have hk0 : ∀ x : Nat, x < s.heap.size → H[x]? = s.heap[x]? := fun x h9 => (hk x (Nat.lt_of_lt_of_le h9 hS.1) (fun h => h)).trans (hk0 x h9)
  have hS := hS1
  rcases hw with ⟨rfl, bd4⟩ | ⟨rfl, bd4⟩
  · skip
    refine z_if_ne (tgt := 27) hx hb dX7_wind_7 (by decide) (by decide) (fun _ => ?_) (fun cd7 => absurd cd7 (by decide))
    obtain ⟨sa9, hsa9⟩ := hstr (159, "base is 0 to 30, gusts 0 to 10, direction 0 to 23") (by decide)
    exact vx_throwS (names := ["java/lang/RuntimeException", "java/lang/Exception"]) (sa := sa9) hx hb hlT hown (by decide +kernel) (by decide +kernel) (hts (.classLink RX7 50 "java/lang/IllegalArgumentException") (by decide +kernel)) (hts (.initialized "java/lang/IllegalArgumentException") (by decide +kernel)) hsa9 (vx_hat (fun w h => hts w (vt54_X7_wind w h)) vf54 hnest.2.2.1.bad) vg54 hU0 hN0 hS (by rw [hml]; exact hl.1) dX7_wind_27 dX7_wind_30 dX7_wind_31 dX7_wind_33 dX7_wind_36 (fun x h => (hexc x h).elim) (Nat.le_of_ble_eq_true rfl) (Nat.le_of_ble_eq_true rfl) (show 0 + 0 + 1 ≤ 1 by omega) (show 0 + 0 + 6 ≤ 6 by omega) hlocks (fun t9 hvm9 hz9 hk9 => ⟨(), trivial, okE_A, Nat.le_trans hS.1 hz9, fun x h9 _ => (hk9 x (Nat.lt_of_lt_of_le h9 hS.1)).trans (hk0 x h9)⟩) hS.2.2 (by omega) (by omega)
  · skip
    refine z_if_ne (tgt := 27) hx hb dX7_wind_7 (by decide) (by decide) (fun cd7 => absurd cd7 (by decide)) (fun _ => ?_)
    refine lv_iload_n hx hb dX7_wind_10 rfl (lv_at hl 2 rfl) ?_
    refine lv_iconst (v := zI 0) hx hb dX7_wind_11 rfl ?_
    refine lv_bipush (v := zI 10) hx hb dX7_wind_12 (by decide +kernel) ?_
    refine va_calli (va_runS (As := [.int (zI (gu)), .int (zI (0)), .int (zI (10))]) (rest := []) ⟨hx, hb, hml, hown, hts⟩ (c_X7_isOutside l (gu) (by omega) (0) (by omega) (10) (by omega)) (va_cwS 3 hts gX7_wind_X7_isOutside rfl rfl rfl (by decide +kernel) ⟨Nat.le_of_ble_eq_true rfl, Nat.le_of_ble_eq_true rfl⟩) ⟨fun _ _ _ _ h => h, fun _ _ _ => ⟨rfl, trivial⟩⟩ rfl rfl hl.1 rfl (lv_room (Nat.le_of_ble_eq_true rfl)) dX7_wind_14 ⟨(show 0 + 0 + 0 ≤ 1 by omega), (show 0 + 0 + 0 ≤ 6 by omega)⟩) hS (fun _ _ h => h.elim) (fun _ h => h.elim) (fun rv14 u9 t9 H locs ht hvm hw hB hz hk hS1 => ?_)
    have hP := hP.kept (fun k x hk9 => hk x.1 ((hP k x hk9).lt) (fun h => h))
    have hk0 : ∀ x : Nat, x < s.heap.size → H[x]? = s.heap[x]? := fun x h9 => (hk x (Nat.lt_of_lt_of_le h9 hS.1) (fun h => h)).trans (hk0 x h9)
    have hS := hS1
    rcases hw with ⟨rfl, bd14⟩ | ⟨rfl, bd14⟩
    · skip
      refine z_if_ne (tgt := 27) hx hb dX7_wind_17 (by decide) (by decide) (fun _ => ?_) (fun cd17 => absurd cd17 (by decide))
      obtain ⟨sa9, hsa9⟩ := hstr (159, "base is 0 to 30, gusts 0 to 10, direction 0 to 23") (by decide)
      exact vx_throwS (names := ["java/lang/RuntimeException", "java/lang/Exception"]) (sa := sa9) hx hb hlT hown (by decide +kernel) (by decide +kernel) (hts (.classLink RX7 50 "java/lang/IllegalArgumentException") (by decide +kernel)) (hts (.initialized "java/lang/IllegalArgumentException") (by decide +kernel)) hsa9 (vx_hat (fun w h => hts w (vt54_X7_wind w h)) vf54 hnest.2.2.1.bad) vg54 hU0 hN0 hS (by rw [hml]; exact hl.1) dX7_wind_27 dX7_wind_30 dX7_wind_31 dX7_wind_33 dX7_wind_36 (fun x h => (hexc x h).elim) (Nat.le_of_ble_eq_true rfl) (Nat.le_of_ble_eq_true rfl) (show 0 + 0 + 0 + 1 ≤ 1 by omega) (show 0 + 0 + 0 + 6 ≤ 6 by omega) hlocks (fun t9 hvm9 hz9 hk9 => ⟨(), trivial, okE_A, Nat.le_trans hS.1 hz9, fun x h9 _ => (hk9 x (Nat.lt_of_lt_of_le h9 hS.1)).trans (hk0 x h9)⟩) hS.2.2 (by omega) (by omega)
    · skip
      refine z_if_ne (tgt := 27) hx hb dX7_wind_17 (by decide) (by decide) (fun cd17 => absurd cd17 (by decide)) (fun _ => ?_)
      refine lv_iload_n hx hb dX7_wind_20 rfl (lv_at hl 3 rfl) ?_
      refine va_calli (va_runS (As := [.int (zI (di))]) (rest := []) ⟨hx, hb, hml, hown, hts⟩ (c_X7_isNoAngle l (di) (by omega)) (va_cwS 1 hts gX7_wind_X7_isNoAngle rfl rfl rfl (by decide +kernel) ⟨Nat.le_of_ble_eq_true rfl, Nat.le_of_ble_eq_true rfl⟩) ⟨fun _ _ _ _ h => h, fun _ _ _ => ⟨rfl, trivial⟩⟩ rfl rfl hl.1 rfl (lv_room (Nat.le_of_ble_eq_true rfl)) dX7_wind_21 ⟨(show 0 + 0 + 0 + 0 ≤ 1 by omega), (show 0 + 0 + 0 + 0 ≤ 6 by omega)⟩) hS (fun _ _ h => h.elim) (fun _ h => h.elim) (fun rv21 u9 t9 H locs ht hvm hw hB hz hk hS1 => ?_)
      have hP := hP.kept (fun k x hk9 => hk x.1 ((hP k x hk9).lt) (fun h => h))
      have hk0 : ∀ x : Nat, x < s.heap.size → H[x]? = s.heap[x]? := fun x h9 => (hk x (Nat.lt_of_lt_of_le h9 hS.1) (fun h => h)).trans (hk0 x h9)
      have hS := hS1
      rcases hw with ⟨rfl, bd21⟩ | ⟨rfl, bd21⟩
      · skip
        refine z_if_eq (tgt := 37) hx hb dX7_wind_24 (by decide) (by decide) (fun cd24 => absurd cd24 (by decide)) (fun _ => ?_)
        obtain ⟨sa9, hsa9⟩ := hstr (159, "base is 0 to 30, gusts 0 to 10, direction 0 to 23") (by decide)
        exact vx_throwS (names := ["java/lang/RuntimeException", "java/lang/Exception"]) (sa := sa9) hx hb hlT hown (by decide +kernel) (by decide +kernel) (hts (.classLink RX7 50 "java/lang/IllegalArgumentException") (by decide +kernel)) (hts (.initialized "java/lang/IllegalArgumentException") (by decide +kernel)) hsa9 (vx_hat (fun w h => hts w (vt54_X7_wind w h)) vf54 hnest.2.2.1.bad) vg54 hU0 hN0 hS (by rw [hml]; exact hl.1) dX7_wind_27 dX7_wind_30 dX7_wind_31 dX7_wind_33 dX7_wind_36 (fun x h => (hexc x h).elim) (Nat.le_of_ble_eq_true rfl) (Nat.le_of_ble_eq_true rfl) (show 0 + 0 + 0 + 0 + 1 ≤ 1 by omega) (show 0 + 0 + 0 + 0 + 6 ≤ 6 by omega) hlocks (fun t9 hvm9 hz9 hk9 => ⟨(), trivial, okE_A, Nat.le_trans hS.1 hz9, fun x h9 _ => (hk9 x (Nat.lt_of_lt_of_le h9 hS.1)).trans (hk0 x h9)⟩) hS.2.2 (by omega) (by omega)
      · skip
        refine z_if_eq (tgt := 37) hx hb dX7_wind_24 (by decide) (by decide) (fun _ => ?_) (fun cd24 => absurd cd24 (by decide))
        refine lv_aload_n hx hb dX7_wind_37 rfl (lv_at hl 0 rfl) ?_
        refine va_get (D := D) (ci := 9) (v := .ref (a 1)) (C := RX7) (T := TX7) (N := 9) hx hb hts inX7 hown hK hP 0 wg_S rfl 0 (by decide) k10 (fun _ h9 => h9) rfl dX7_wind_38 ?_
        refine va_get (D := D) (ci := 7) (v := .int (zI (σ 1 2))) (C := RX5) (T := TX5) (N := 7) hx hb hts inX5 hown hK hP 1 wg_W rfl 2 (by decide) k161 (fun _ h9 => h9) rfl dX7_wind_41 ?_
        refine lv_istore (lv' := [(4, .int (zI (σ 1 2))), (0, .ref (a 0)), (1, .int (zI (ba))), (2, .int (zI (gu))), (3, .int (zI (di)))]) hx hb dX7_wind_44 hl (by decide) rfl (fun ls hl => ?_)
        refine lv_aload_n hx hb dX7_wind_46 rfl (lv_at hl 1 rfl) ?_
        refine va_get (D := D) (ci := 9) (v := .ref (a 1)) (C := RX7) (T := TX7) (N := 9) hx hb hts inX7 hown hK hP 0 wg_S rfl 0 (by decide) k10 (fun _ h9 => h9) rfl dX7_wind_47 ?_
        refine lv_iload_n hx hb dX7_wind_50 rfl (lv_at hl 2 rfl) ?_
        refine w_put (ty := .int) (z := ba) (C := RX5) (T := TX5) (N := 7) hx hb hts inX5 tyX5 tyX5_ok nmX5 hown hK hP hD hS 1 (by omega) (ci := 7) (fs := fW) (fun _ => wc_W) rfl 2 (by decide) k161 (fun _ h9 => h9) rfl (by decide +kernel) rfl rfl (Nat.le_of_ble_eq_true rfl) rfl dX7_wind_51 (fun H locs hP hD hS => ?_)
        obtain ⟨σp51, eσp51⟩ : ∃ z, z = up2 σ 1 2 (ba) := ⟨_, rfl⟩
        rw [← eσp51] at hP hD
        refine lv_aload_n hx hb dX7_wind_54 rfl (lv_at hl 1 rfl) ?_
        refine va_get (D := D) (ci := 9) (v := .ref (a 1)) (C := RX7) (T := TX7) (N := 9) hx hb hts inX7 hown hK hP 0 wg_S rfl 0 (by decide) k10 (fun _ h9 => h9) rfl dX7_wind_55 ?_
        refine lv_iload_n hx hb dX7_wind_58 rfl (lv_at hl 3 rfl) ?_
        refine w_put (ty := .int) (z := gu) (C := RX5) (T := TX5) (N := 7) hx hb hts inX5 tyX5 tyX5_ok nmX5 hown hK hP hD hS 1 (by omega) (ci := 7) (fs := fW) (fun _ => wc_W) rfl 3 (by decide) k164 (fun _ h9 => h9) rfl (by decide +kernel) rfl rfl (Nat.le_of_ble_eq_true rfl) rfl dX7_wind_59 (fun H locs hP hD hS => ?_)
        obtain ⟨σp59, eσp59⟩ : ∃ z, z = up2 σp51 1 3 (gu) := ⟨_, rfl⟩
        rw [← eσp59] at hP hD
        refine lv_aload_n hx hb dX7_wind_62 rfl (lv_at hl 1 rfl) ?_
        refine va_get (D := D) (ci := 9) (v := .ref (a 1)) (C := RX7) (T := TX7) (N := 9) hx hb hts inX7 hown hK hP 0 wg_S rfl 0 (by decide) k10 (fun _ h9 => h9) rfl dX7_wind_63 ?_
        refine lv_iload_n hx hb dX7_wind_66 rfl (lv_at hl 4 rfl) ?_
        refine w_put (ty := .int) (z := di) (C := RX5) (T := TX5) (N := 7) hx hb hts inX5 tyX5 tyX5_ok nmX5 hown hK hP hD hS 1 (by omega) (ci := 7) (fs := fW) (fun _ => wc_W) rfl 4 (by decide) k167 (fun _ h9 => h9) rfl (by decide +kernel) rfl rfl (Nat.le_of_ble_eq_true rfl) rfl dX7_wind_67 (fun H locs hP hD hS => ?_)
        obtain ⟨σp67, eσp67⟩ : ∃ z, z = up2 σp59 1 4 (di) := ⟨_, rfl⟩
        rw [← eσp67] at hP hD
        refine lv_iload hx hb dX7_wind_70 (lv_at hl 0 rfl) ?_
        refine vx_ret ?_
        refine W.widen (k := 1) (n := 6) (by omega) (by omega) ?_
        have eR : σp67 = upR σ 1 (upr (upr (upr (σ 1) 2 ba) 3 gu) 4 di) := by
          rw [eσp67, eσp59, eσp51]
          simp only [up2, upR_s, upR_R]
        have h15 : σp67 1 5 = σ 1 5 := by rw [eR, upR_s]; rfl
        have hO2 : okA (t0 + 1) (σp67 1 5) q σp67 := by
          rw [h15, eR]
          refine okA_W (okA_mono hO (by omega) (by omega)) ?_
          show 0 ≤ σ 1 0 ∧ σ 1 0 ≤ 9999 ∧ 0 ≤ σ 1 1 ∧ σ 1 1 ≤ 1023 ∧ 0 ≤ ba ∧ ba ≤ 30 ∧ 0 ≤ gu ∧ gu ≤ 10 ∧ 0 ≤ di ∧ di ≤ 23 ∧ 0 ≤ σ 1 5 ∧ σ 1 5 ≤ 41 ∧ 0 ≤ σ 1 6 ∧ σ 1 6 ≤ σ 1 0
          omega
        have hE2 : Ev σ σp67 := by rw [eR]; exact Ev_W (Int.le_refl _) (Int.le_refl _)
        exact W.iret (v := zI (σ 1 2)) hx hb hr (fun t9 ht hW => ⟨⟨_, (q, σp67), rfl, ⟨_, rfl, ⟨hO2, hE2⟩⟩, Wd_mk (wP_left hP) hE0 hS ht hW⟩, hS.F ht⟩) hS.2.2 dX7_wind_72

set_option maxRecDepth 100000 in
theorem vt54_X7_crane : ∀ w ∈ (vx_atS RX7 54 "java/lang/IllegalArgumentException" ["java/lang/RuntimeException", "java/lang/Exception"]).filter goodWord, w ∈ wsX7_crane := by decide +kernel
set_option maxRecDepth 100000 in
theorem vt65_X7_crane : ∀ w ∈ (vx_atS RX7 65 "java/lang/IllegalStateException" ["java/lang/RuntimeException", "java/lang/Exception"]).filter goodWord, w ∈ wsX7_crane := by decide +kernel
set_option maxHeartbeats 4000000 in
set_option maxRecDepth 100000 in
/-- X7_crane -/
theorem c_X7_crane (l : Launch) (hlT : l.stackTraces = false) (D : va_G) (cy : Nat → ClassId) (a q : Nat → Nat) (σ : Nat → Nat → Int) (sz : Nat) (re : Int) (hre : rg re) (fa : Int) (hfa : rg fa) (t0 : Int) (hO : okA t0 (σ 1 5) q σ) (ht9 : t0 < 1000000) : vx_Met l yX7_crane wsX7_crane ({ frames := 10, cells := 1, slots := 6, locals := 400 }) (va_Pc [.ref (a 0), .int (zI (re)), .int (zI (fa))] (fun U => U.heap.size = sz ∧ Wd D cy a q σ U)) (va_Qi (fun (r : Int32) (u : ((Nat → Nat) × (Nat → Nat → Int))) => ∃ z : Int, r = zI z ∧ (okA (t0 + 1) (u.2 1 5) u.1 u.2 ∧ Ev σ u.2 ∧ u.2 0 5 = σ 0 5 + 1)) (fun (u : ((Nat → Nat) × (Nat → Nat → Int))) t => Wd D cy a u.1 u.2 t) (wF a sz)) (vx_X (fun (_ : Unit) => re < 10 ∨ 40 < re ∨ (fa ≠ 2 ∧ fa ≠ 4) ∨ 3 ≤ σ 0 5) (fun E _ _ => okE E) (fun _ => False)) 1 6 (wF a sz) := by
  refine vx_ofW (cc := cX7_crane) (maxL := 4) (ret := (some .int)) (by decide) rfl ?_
  intro p e s m args below meth c s₁ B hml hexc hpc0
  obtain ⟨rfl, hsz, hW0⟩ := hpc0
  have hx := B.exec
  have hb := B.bytes
  have hr := B.returns
  have hts := atoms_spec (ws := wsX7_crane) B.pre
  have hown : s.vm.findClass RX7 = some m.cls := findClass_of_methodNamed B.named
  have hlocks := B.notSynchronized
  subst hsz
  obtain ⟨hP00, hE0⟩ := id hW0
  obtain ⟨hK, hinj, hU0, hN0, hstr, hnest⟩ := id hE0
  have hP : va_P D vwCl (wld cy a q σ ++ []) s.heap := by rw [List.append_nil]; exact hP00
  have hD : va_D (wF a s.heap.size) (wld cy a q σ ++ []) := wD_of hinj
  have hA : ∀ x : Nat, s.heap.size ≤ x → wF a s.heap.size x := fun _ h => Or.inr h
  have hS : va_S (wF a s.heap.size) s.heap s.heap [] := va_S.rf
  have hk0 : ∀ x : Nat, x < s.heap.size → s.heap[x]? = s.heap[x]? := fun _ _ => rfl
  have hl := lv_entry ([.ref (a 0), .int (zI (re)), .int (zI (fa))]) (n := 4) (Nat.le_of_ble_eq_true rfl)
  rw [lg_entry_eq]
  generalize (lg_sl ([.ref (a 0), .int (zI (re)), .int (zI (fa))]) ++ List.replicate (4 - (lg_sl ([.ref (a 0), .int (zI (re)), .int (zI (fa))])).length) Slot.unset).toArray = ls at hl ⊢
  have hl : lv_has ls 4 [(0, .ref (a 0)), (1, .int (zI (re))), (2, .int (zI (fa)))] := hl
  have k10 := hts (.fieldLink RX7 10 "Slewfree" "weather" "LSlewfree$Weather;") (by decide +kernel)
  have k18 := hts (.fieldLink RX7 18 "Slewfree" "cranes" "[LSlewfree$Crane;") (by decide +kernel)
  have k57 := hts (.fieldLink RX7 57 "Slewfree" "craneCount" "I") (by decide +kernel)
  have k66 := hts (.fieldLink RX7 66 "Slewfree$Crane" "reach" "I") (by decide +kernel)
  have k69 := hts (.fieldLink RX7 69 "Slewfree$Crane" "falls" "I") (by decide +kernel)
  have k72 := hts (.fieldLink RX7 72 "Slewfree$Crane" "radius" "I") (by decide +kernel)
  have k79 := hts (.fieldLink RX7 79 "Slewfree$Crane" "isLocked" "Z") (by decide +kernel)
  have k83 := hts (.fieldLink RX7 83 "Slewfree$Crane" "number" "I") (by decide +kernel)
  have inX0 : ∀ w ∈ u_ws RX0 TX0 12, w ∈ wsX7_crane := by decide +kernel
  have inX7 : ∀ w ∈ u_ws RX7 TX7 9, w ∈ wsX7_crane := by decide +kernel
  obtain ⟨oS, oW, oC, oZ, oM, oL, oP, oQ, oH⟩ := id hO
  unfold okS at oS; unfold okW at oW; unfold okL at oL
  refine lv_iload_n hx hb dX7_crane_0 rfl (lv_at hl 1 rfl) ?_
  refine lv_bipush (v := zI 10) hx hb dX7_crane_1 (by decide +kernel) ?_
  refine lv_bipush (v := zI 40) hx hb dX7_crane_3 (by decide +kernel) ?_
  refine va_calli (va_runS (As := [.int (zI (re)), .int (zI (10)), .int (zI (40))]) (rest := []) ⟨hx, hb, hml, hown, hts⟩ (c_X7_isOutside l (re) (by omega) (10) (by omega) (40) (by omega)) (va_cwS 3 hts gX7_crane_X7_isOutside rfl rfl rfl (by decide +kernel) ⟨Nat.le_of_ble_eq_true rfl, Nat.le_of_ble_eq_true rfl⟩) ⟨fun _ _ _ _ h => h, fun _ _ _ => ⟨rfl, trivial⟩⟩ rfl rfl hl.1 rfl (lv_room (Nat.le_of_ble_eq_true rfl)) dX7_crane_5 ⟨(show 0 + 0 ≤ 1 by omega), (show 0 + 0 ≤ 6 by omega)⟩) hS (fun _ _ h => h.elim) (fun _ h => h.elim) (fun rv5 u9 t9 H locs ht hvm hw hB hz hk hS1 => ?_)
  have hP := hP.kept (fun k x hk9 => hk x.1 ((hP k x hk9).lt) (fun h => h))
  have hk0 : ∀ x : Nat, x < s.heap.size → H[x]? = s.heap[x]? := fun x h9 => (hk x (Nat.lt_of_lt_of_le h9 hS.1) (fun h => h)).trans (hk0 x h9)
  have hS := hS1
  rcases hw with ⟨rfl, bd5⟩ | ⟨rfl, bd5⟩
  · skip
    refine z_if_ne (tgt := 21) hx hb dX7_crane_8 (by decide) (by decide) (fun _ => ?_) (fun cd8 => absurd cd8 (by decide))
    obtain ⟨sa9, hsa9⟩ := hstr (52, "reach is 10 to 40, falls 2 or 4") (by decide)
    exact vx_throwS (names := ["java/lang/RuntimeException", "java/lang/Exception"]) (sa := sa9) hx hb hlT hown (by decide +kernel) (by decide +kernel) (hts (.classLink RX7 50 "java/lang/IllegalArgumentException") (by decide +kernel)) (hts (.initialized "java/lang/IllegalArgumentException") (by decide +kernel)) hsa9 (vx_hat (fun w h => hts w (vt54_X7_crane w h)) vf54 hnest.2.2.1.bad) vg54 hU0 hN0 hS (by rw [hml]; exact hl.1) dX7_crane_21 dX7_crane_24 dX7_crane_25 dX7_crane_27 dX7_crane_30 (fun x h => (hexc x h).elim) (Nat.le_of_ble_eq_true rfl) (Nat.le_of_ble_eq_true rfl) (show 0 + 0 + 1 ≤ 1 by omega) (show 0 + 0 + 6 ≤ 6 by omega) hlocks (fun t9 hvm9 hz9 hk9 => ⟨(), (by omega), okE_A, Nat.le_trans hS.1 hz9, fun x h9 _ => (hk9 x (Nat.lt_of_lt_of_le h9 hS.1)).trans (hk0 x h9)⟩) hS.2.2 (by omega) (by omega)
  · skip
    refine z_if_ne (tgt := 21) hx hb dX7_crane_8 (by decide) (by decide) (fun cd8 => absurd cd8 (by decide)) (fun _ => ?_)
    refine lv_iload_n hx hb dX7_crane_11 rfl (lv_at hl 2 rfl) ?_
    refine lv_iconst (v := zI 2) hx hb dX7_crane_12 rfl ?_
    refine z_icmp_eq (tgt := 31) hx hb dX7_crane_13 (by decide) (by omega) (by omega) (fun cd13 => ?_) (fun cd13 => ?_)
    · skip
      refine lv_aload_n hx hb dX7_crane_31 rfl (lv_at hl 0 rfl) ?_
      refine va_get (D := D) (ci := 9) (v := .int (zI (σ 0 5))) (C := RX7) (T := TX7) (N := 9) hx hb hts inX7 hown hK hP 0 wg_S rfl 5 (by decide) k57 (fun _ h9 => h9) rfl dX7_crane_32 ?_
      refine lv_iconst (v := zI 3) hx hb dX7_crane_35 rfl ?_
      refine z_icmp_lt (tgt := 49) hx hb dX7_crane_36 (by decide) (by omega) (by omega) (fun cd36 => ?_) (fun cd36 => ?_)
      · skip
        obtain ⟨n, hn⟩ : ∃ n : Nat, σ 0 5 = (n : Int) := ⟨(σ 0 5).toNat, by omega⟩
        have oCn := oC n (by omega); unfold okC at oCn
        refine lv_aload_n hx hb dX7_crane_49 rfl (lv_at hl 0 rfl) ?_
        refine va_get (D := D) (ci := 9) (v := .ref (a 2)) (C := RX7) (T := TX7) (N := 9) hx hb hts inX7 hown hK hP 0 wg_S rfl 1 (by decide) k18 (fun _ h9 => h9) rfl dX7_crane_50 ?_
        refine lv_aload_n hx hb dX7_crane_53 rfl (lv_at hl 0 rfl) ?_
        refine va_get (D := D) (ci := 9) (v := .int (zI (σ 0 5))) (C := RX7) (T := TX7) (N := 9) hx hb hts inX7 hown hK hP 0 wg_S rfl 5 (by decide) k57 (fun _ h9 => h9) rfl dX7_crane_54 ?_
        refine z_aald (i := n) hx hb hK hP 2 0 wg_AC rfl (by omega) (by omega) (by omega) dX7_crane_57 ?_
        refine lv_astore_n (lv' := [(3, .ref (a (3 + n))), (0, .ref (a 0)), (1, .int (zI (re))), (2, .int (zI (fa)))]) hx hb dX7_crane_58 rfl hl (by decide) rfl (fun ls hl => ?_)
        refine lv_aload_n hx hb dX7_crane_59 rfl (lv_at hl 1 rfl) ?_
        refine lv_dup hx hb dX7_crane_60 rfl ?_
        refine va_get (D := D) (ci := 9) (v := .int (zI (σ 0 5))) (C := RX7) (T := TX7) (N := 9) hx hb hts inX7 hown hK hP 0 wg_S rfl 5 (by decide) k57 (fun _ h9 => h9) rfl dX7_crane_61 ?_
        refine lv_iconst (v := zI 1) hx hb dX7_crane_64 rfl ?_
        refine z_iadd hx hb dX7_crane_65 ?_
        refine w_put (ty := .int) (z := (σ 0 5) + 1) (C := RX7) (T := TX7) (N := 9) hx hb hts inX7 tyX7 tyX7_ok nmX7 hown hK hP hD hS 0 (by omega) (ci := 9) (fs := fS a) (fun _ => wc_S) rfl 5 (by decide) k57 (fun _ h9 => h9) rfl (by decide +kernel) rfl rfl (Nat.le_of_ble_eq_true rfl) rfl dX7_crane_66 (fun H locs hP hD hS => ?_)
        obtain ⟨σp66, eσp66⟩ : ∃ z, z = up2 σ 0 5 ((σ 0 5) + 1) := ⟨_, rfl⟩
        rw [← eσp66] at hP hD
        refine lv_aload_n hx hb dX7_crane_69 rfl (lv_at hl 0 rfl) ?_
        refine lv_iload_n hx hb dX7_crane_70 rfl (lv_at hl 2 rfl) ?_
        refine w_put (ty := .int) (z := re) (C := RX0) (T := TX0) (N := 12) hx hb hts inX0 tyX0 tyX0_ok nmX0 hown hK hP hD hS (3 + n) (by omega) (ci := 2) (fs := fC) (fun _ => wc_C (i := n) (by first | assumption | omega)) rfl 1 (by decide) k66 (fun _ h9 => h9) rfl (by decide +kernel) rfl rfl (Nat.le_of_ble_eq_true rfl) rfl dX7_crane_71 (fun H locs hP hD hS => ?_)
        obtain ⟨σp71, eσp71⟩ : ∃ z, z = up2 σp66 (3 + n) 1 (re) := ⟨_, rfl⟩
        rw [← eσp71] at hP hD
        refine lv_aload_n hx hb dX7_crane_74 rfl (lv_at hl 0 rfl) ?_
        refine lv_iload_n hx hb dX7_crane_75 rfl (lv_at hl 3 rfl) ?_
        refine w_put (ty := .int) (z := fa) (C := RX0) (T := TX0) (N := 12) hx hb hts inX0 tyX0 tyX0_ok nmX0 hown hK hP hD hS (3 + n) (by omega) (ci := 2) (fs := fC) (fun _ => wc_C (i := n) (by first | assumption | omega)) rfl 2 (by decide) k69 (fun _ h9 => h9) rfl (by decide +kernel) rfl rfl (Nat.le_of_ble_eq_true rfl) rfl dX7_crane_76 (fun H locs hP hD hS => ?_)
        obtain ⟨σp76, eσp76⟩ : ∃ z, z = up2 σp71 (3 + n) 2 (fa) := ⟨_, rfl⟩
        rw [← eσp76] at hP hD
        refine lv_aload_n hx hb dX7_crane_79 rfl (lv_at hl 0 rfl) ?_
        refine lv_bipush (v := zI 10) hx hb dX7_crane_80 (by decide +kernel) ?_
        refine w_put (ty := .int) (z := 10) (C := RX0) (T := TX0) (N := 12) hx hb hts inX0 tyX0 tyX0_ok nmX0 hown hK hP hD hS (3 + n) (by omega) (ci := 2) (fs := fC) (fun _ => wc_C (i := n) (by first | assumption | omega)) rfl 4 (by decide) k72 (fun _ h9 => h9) rfl (by decide +kernel) rfl rfl (Nat.le_of_ble_eq_true rfl) rfl dX7_crane_82 (fun H locs hP hD hS => ?_)
        obtain ⟨σp82, eσp82⟩ : ∃ z, z = up2 σp76 (3 + n) 4 (10) := ⟨_, rfl⟩
        rw [← eσp82] at hP hD
        refine lv_aload_n hx hb dX7_crane_85 rfl (lv_at hl 0 rfl) ?_
        refine lv_aload_n hx hb dX7_crane_86 rfl (lv_at hl 1 rfl) ?_
        refine va_get (D := D) (ci := 9) (v := .ref (a 1)) (C := RX7) (T := TX7) (N := 9) hx hb hts inX7 hown hK hP 0 wg_S rfl 0 (by decide) k10 (fun _ h9 => h9) rfl dX7_crane_87 ?_
        have fw5 : σp82 1 5 = σ 1 5 := by rw [eσp82, g_ne (by omega), eσp76, g_ne (by omega), eσp71, g_ne (by omega), eσp66, g_ne (by omega)]
        refine va_calli (va_runV (As := []) (rest := [.ref (a (3 + n))]) ⟨hx, hb, hml, hown, hts⟩ (c_X5_isStorm l D cy a q σp82 H.size (by rw [fw5]; omega)) (cwV 0 hts gX7_crane_X5_isStorm rfl rfl rfl (by decide +kernel) ⟨Nat.le_of_ble_eq_true rfl, Nat.le_of_ble_eq_true rfl⟩) ⟨Wd_blind, va_recv hK hP (ci := 7) (q0 := 1) rfl wg_W, fun U hU hW => ⟨rfl, by rw [hU], Wd_mk (wP_left hP) hE0 hS hU hW⟩⟩ rfl rfl hl.1 rfl (lv_room (Nat.le_of_ble_eq_true rfl)) dX7_crane_90 ⟨(show 0 + 0 + 0 ≤ 1 by omega), (show 0 + 0 + 0 ≤ 6 by omega)⟩) hS (fun _ _ h => h.elim) (fun _ h => wF_mono hS.1 _ h) (fun rv90 u9 t9 H locs ht hvm hw hB hz hk hS1 => ?_)
        have hP := hP.kept (fun k x hk9 => hk x.1 ((hP k x hk9).lt) (fun h => h))
        have hS := hS1
        rcases hw with ⟨rfl, bd90⟩ | ⟨rfl, bd90⟩
        · skip
          rw [fw5] at bd90
          refine z_if_ne (tgt := 100) hx hb dX7_crane_93 (by decide) (by decide) (fun _ => ?_) (fun cd93 => absurd cd93 (by decide))
          refine lv_iconst (v := zI 0) hx hb dX7_crane_100 rfl ?_
          refine w_put (ty := .boolean) (z := 0) (C := RX0) (T := TX0) (N := 12) hx hb hts inX0 tyX0 tyX0_ok nmX0 hown hK hP hD hS (3 + n) (by omega) (ci := 2) (fs := fC) (fun _ => wc_C (i := n) (by first | assumption | omega)) rfl 5 (by decide) k79 (fun _ h9 => h9) rfl (by decide +kernel) rfl rfl (Nat.le_of_ble_eq_true rfl) rfl dX7_crane_101 (fun H locs hP hD hS => ?_)
          obtain ⟨σp101, eσp101⟩ : ∃ z, z = up2 σp82 (3 + n) 5 (0) := ⟨_, rfl⟩
          rw [← eσp101] at hP hD
          refine lv_aload_n hx hb dX7_crane_104 rfl (lv_at hl 0 rfl) ?_
          refine va_get (D := D) (ci := 2) (v := .int (zI (σ (3 + n) 0))) (C := RX0) (T := TX0) (N := 12) hx hb hts inX0 hown hK hP (3 + n) (wg_C (i := n) (by first | assumption | omega)) rfl 0 (by decide) k83 (fun _ h9 => h9) (by show some (Value.int (zI (σp101 (3 + n) 0))) = some (Value.int (zI (σ (3 + n) 0))); rw [eσp101, g_fe (by decide), eσp82, g_fe (by decide), eσp76, g_fe (by decide), eσp71, g_fe (by decide), eσp66, g_ne (by omega)]) dX7_crane_105 ?_
          refine vx_ret ?_
          refine W.widen (k := 1) (n := 6) (by omega) (by omega) ?_
          have eR : σp101 = upR (upR σ 0 (upr (σ 0) 5 (σ 0 5 + 1))) (3 + n) (upr (upr (upr (upr (σ (3 + n)) 1 re) 2 fa) 4 10) 5 0) := by
            rw [eσp101, eσp82, eσp76, eσp71, eσp66]
            simp only [up2, upR_s, upR_R, upR_n (show 3 + n ≠ 0 by omega)]
          have h15 : σp101 1 5 = σ 1 5 := by rw [eR, upR_n (by omega), upR_n (by omega)]
          have hO1 : okA t0 (σ 1 5) q σp101 := by
            rw [eR]
            refine okA_crane hO hn.symm (by omega) ?_ rfl ?_
            · show 0 ≤ σ 0 5 + 1 ∧ σ 0 5 + 1 ≤ 3 ∧ 0 ≤ σ 0 6 ∧ σ 0 6 ≤ 6 ∧ 0 ≤ σ 0 7 ∧ σ 0 7 ≤ 6 ∧ 0 ≤ σ 0 8 ∧ σ 0 8 ≤ t0 ∧ 0 ≤ t0 ∧ t0 ≤ 1000000
              omega
            · show σ (3 + n) 0 = n ∧ 0 ≤ σ (3 + n) 3 ∧ σ (3 + n) 3 ≤ 23 ∧ ((0 : Int) = 0 ∨ (0 : Int) = 1) ∧ (0 ≤ σ (3 + n) 9 ∧ σ (3 + n) 9 ≤ σ (3 + n) 8 ∧ σ (3 + n) 8 ≤ σ (3 + n) 7 ∧ σ (3 + n) 7 ≤ σ (3 + n) 6 ∧ σ (3 + n) 6 ≤ 99) ∧ 0 ≤ σ (3 + n) 10 ∧ σ (3 + n) 10 ≤ 1000 ∧ 0 ≤ σ (3 + n) 11 ∧ σ (3 + n) 11 ≤ t0 ∧ ((n : Int) < σ 0 5 + 1 → 10 ≤ (re : Int) ∧ (re : Int) ≤ 40 ∧ ((fa : Int) = 2 ∨ (fa : Int) = 4) ∧ 10 ≤ (10 : Int) ∧ (10 : Int) ≤ (re : Int) ∧ (12 < σ 1 5 → (0 : Int) = 0))
              omega
          have hO2 : okA (t0 + 1) (σp101 1 5) q σp101 := by
            rw [h15]
            exact okA_mono hO1 (by omega) (by omega)
          have hE2 : Ev σ σp101 := by
            rw [eR]
            refine Ev.tr (Ev_S (r := upr (σ 0) 5 (σ 0 5 + 1)) (Int.le_refl _) (show σ 0 5 ≤ σ 0 5 + 1 by omega)) (Ev_C (by omega) ?_)
            rw [upR_n (by omega)]
            exact Int.le_refl _
          have h05 : σp101 0 5 = σ 0 5 + 1 := by rw [eR, upR_n (by omega), upR_s]; rfl
          exact W.iret (v := zI (σ (3 + n) 0)) hx hb hr (fun t9 ht hW => ⟨⟨_, (q, σp101), rfl, ⟨_, rfl, ⟨hO2, hE2, h05⟩⟩, Wd_mk (wP_left hP) hE0 hS ht hW⟩, hS.F ht⟩) hS.2.2 dX7_crane_108
        · skip
          rw [fw5] at bd90
          refine z_if_ne (tgt := 100) hx hb dX7_crane_93 (by decide) (by decide) (fun cd93 => absurd cd93 (by decide)) (fun _ => ?_)
          refine lv_iconst (v := zI 1) hx hb dX7_crane_96 rfl ?_
          refine lv_goto (tgt := 101) hx hb dX7_crane_97 (by decide) ?_
          refine w_put (ty := .boolean) (z := 1) (C := RX0) (T := TX0) (N := 12) hx hb hts inX0 tyX0 tyX0_ok nmX0 hown hK hP hD hS (3 + n) (by omega) (ci := 2) (fs := fC) (fun _ => wc_C (i := n) (by first | assumption | omega)) rfl 5 (by decide) k79 (fun _ h9 => h9) rfl (by decide +kernel) rfl rfl (Nat.le_of_ble_eq_true rfl) rfl dX7_crane_101 (fun H locs hP hD hS => ?_)
          obtain ⟨σp101, eσp101⟩ : ∃ z, z = up2 σp82 (3 + n) 5 (1) := ⟨_, rfl⟩
          rw [← eσp101] at hP hD
          refine lv_aload_n hx hb dX7_crane_104 rfl (lv_at hl 0 rfl) ?_
          refine va_get (D := D) (ci := 2) (v := .int (zI (σ (3 + n) 0))) (C := RX0) (T := TX0) (N := 12) hx hb hts inX0 hown hK hP (3 + n) (wg_C (i := n) (by first | assumption | omega)) rfl 0 (by decide) k83 (fun _ h9 => h9) (by show some (Value.int (zI (σp101 (3 + n) 0))) = some (Value.int (zI (σ (3 + n) 0))); rw [eσp101, g_fe (by decide), eσp82, g_fe (by decide), eσp76, g_fe (by decide), eσp71, g_fe (by decide), eσp66, g_ne (by omega)]) dX7_crane_105 ?_
          refine vx_ret ?_
          refine W.widen (k := 1) (n := 6) (by omega) (by omega) ?_
          have eR : σp101 = upR (upR σ 0 (upr (σ 0) 5 (σ 0 5 + 1))) (3 + n) (upr (upr (upr (upr (σ (3 + n)) 1 re) 2 fa) 4 10) 5 1) := by
            rw [eσp101, eσp82, eσp76, eσp71, eσp66]
            simp only [up2, upR_s, upR_R, upR_n (show 3 + n ≠ 0 by omega)]
          have h15 : σp101 1 5 = σ 1 5 := by rw [eR, upR_n (by omega), upR_n (by omega)]
          have hO1 : okA t0 (σ 1 5) q σp101 := by
            rw [eR]
            refine okA_crane hO hn.symm (by omega) ?_ rfl ?_
            · show 0 ≤ σ 0 5 + 1 ∧ σ 0 5 + 1 ≤ 3 ∧ 0 ≤ σ 0 6 ∧ σ 0 6 ≤ 6 ∧ 0 ≤ σ 0 7 ∧ σ 0 7 ≤ 6 ∧ 0 ≤ σ 0 8 ∧ σ 0 8 ≤ t0 ∧ 0 ≤ t0 ∧ t0 ≤ 1000000
              omega
            · show σ (3 + n) 0 = n ∧ 0 ≤ σ (3 + n) 3 ∧ σ (3 + n) 3 ≤ 23 ∧ ((1 : Int) = 0 ∨ (1 : Int) = 1) ∧ (0 ≤ σ (3 + n) 9 ∧ σ (3 + n) 9 ≤ σ (3 + n) 8 ∧ σ (3 + n) 8 ≤ σ (3 + n) 7 ∧ σ (3 + n) 7 ≤ σ (3 + n) 6 ∧ σ (3 + n) 6 ≤ 99) ∧ 0 ≤ σ (3 + n) 10 ∧ σ (3 + n) 10 ≤ 1000 ∧ 0 ≤ σ (3 + n) 11 ∧ σ (3 + n) 11 ≤ t0 ∧ ((n : Int) < σ 0 5 + 1 → 10 ≤ (re : Int) ∧ (re : Int) ≤ 40 ∧ ((fa : Int) = 2 ∨ (fa : Int) = 4) ∧ 10 ≤ (10 : Int) ∧ (10 : Int) ≤ (re : Int) ∧ (12 < σ 1 5 → (1 : Int) = 0))
              omega
          have hO2 : okA (t0 + 1) (σp101 1 5) q σp101 := by
            rw [h15]
            exact okA_mono hO1 (by omega) (by omega)
          have hE2 : Ev σ σp101 := by
            rw [eR]
            refine Ev.tr (Ev_S (r := upr (σ 0) 5 (σ 0 5 + 1)) (Int.le_refl _) (show σ 0 5 ≤ σ 0 5 + 1 by omega)) (Ev_C (by omega) ?_)
            rw [upR_n (by omega)]
            exact Int.le_refl _
          have h05 : σp101 0 5 = σ 0 5 + 1 := by rw [eR, upR_n (by omega), upR_s]; rfl
          exact W.iret (v := zI (σ (3 + n) 0)) hx hb hr (fun t9 ht hW => ⟨⟨_, (q, σp101), rfl, ⟨_, rfl, ⟨hO2, hE2, h05⟩⟩, Wd_mk (wP_left hP) hE0 hS ht hW⟩, hS.F ht⟩) hS.2.2 dX7_crane_108
      · skip
        obtain ⟨sa9, hsa9⟩ := hstr (63, "there are 3 cranes") (by decide)
        exact vx_throwS (names := ["java/lang/RuntimeException", "java/lang/Exception"]) (sa := sa9) hx hb hlT hown (by decide +kernel) (by decide +kernel) (hts (.classLink RX7 61 "java/lang/IllegalStateException") (by decide +kernel)) (hts (.initialized "java/lang/IllegalStateException") (by decide +kernel)) hsa9 (vx_hat (fun w h => hts w (vt65_X7_crane w h)) vf65 hnest.2.2.2.1.bad) vg65 hU0 hN0 hS (by rw [hml]; exact hl.1) dX7_crane_39 dX7_crane_42 dX7_crane_43 dX7_crane_45 dX7_crane_48 (fun x h => (hexc x h).elim) (Nat.le_of_ble_eq_true rfl) (Nat.le_of_ble_eq_true rfl) (show 0 + 0 + 1 ≤ 1 by omega) (show 0 + 0 + 6 ≤ 6 by omega) hlocks (fun t9 hvm9 hz9 hk9 => ⟨(), (by omega), okE_S, Nat.le_trans hS.1 hz9, fun x h9 _ => (hk9 x (Nat.lt_of_lt_of_le h9 hS.1)).trans (hk0 x h9)⟩) hS.2.2 (by omega) (by omega)
    · skip
      refine lv_iload_n hx hb dX7_crane_16 rfl (lv_at hl 2 rfl) ?_
      refine lv_iconst (v := zI 4) hx hb dX7_crane_17 rfl ?_
      refine z_icmp_eq (tgt := 31) hx hb dX7_crane_18 (by decide) (by omega) (by omega) (fun cd18 => ?_) (fun cd18 => ?_)
      · skip
        refine lv_aload_n hx hb dX7_crane_31 rfl (lv_at hl 0 rfl) ?_
        refine va_get (D := D) (ci := 9) (v := .int (zI (σ 0 5))) (C := RX7) (T := TX7) (N := 9) hx hb hts inX7 hown hK hP 0 wg_S rfl 5 (by decide) k57 (fun _ h9 => h9) rfl dX7_crane_32 ?_
        refine lv_iconst (v := zI 3) hx hb dX7_crane_35 rfl ?_
        refine z_icmp_lt (tgt := 49) hx hb dX7_crane_36 (by decide) (by omega) (by omega) (fun cd36 => ?_) (fun cd36 => ?_)
        · skip
          obtain ⟨n, hn⟩ : ∃ n : Nat, σ 0 5 = (n : Int) := ⟨(σ 0 5).toNat, by omega⟩
          have oCn := oC n (by omega); unfold okC at oCn
          refine lv_aload_n hx hb dX7_crane_49 rfl (lv_at hl 0 rfl) ?_
          refine va_get (D := D) (ci := 9) (v := .ref (a 2)) (C := RX7) (T := TX7) (N := 9) hx hb hts inX7 hown hK hP 0 wg_S rfl 1 (by decide) k18 (fun _ h9 => h9) rfl dX7_crane_50 ?_
          refine lv_aload_n hx hb dX7_crane_53 rfl (lv_at hl 0 rfl) ?_
          refine va_get (D := D) (ci := 9) (v := .int (zI (σ 0 5))) (C := RX7) (T := TX7) (N := 9) hx hb hts inX7 hown hK hP 0 wg_S rfl 5 (by decide) k57 (fun _ h9 => h9) rfl dX7_crane_54 ?_
          refine z_aald (i := n) hx hb hK hP 2 0 wg_AC rfl (by omega) (by omega) (by omega) dX7_crane_57 ?_
          refine lv_astore_n (lv' := [(3, .ref (a (3 + n))), (0, .ref (a 0)), (1, .int (zI (re))), (2, .int (zI (fa)))]) hx hb dX7_crane_58 rfl hl (by decide) rfl (fun ls hl => ?_)
          refine lv_aload_n hx hb dX7_crane_59 rfl (lv_at hl 1 rfl) ?_
          refine lv_dup hx hb dX7_crane_60 rfl ?_
          refine va_get (D := D) (ci := 9) (v := .int (zI (σ 0 5))) (C := RX7) (T := TX7) (N := 9) hx hb hts inX7 hown hK hP 0 wg_S rfl 5 (by decide) k57 (fun _ h9 => h9) rfl dX7_crane_61 ?_
          refine lv_iconst (v := zI 1) hx hb dX7_crane_64 rfl ?_
          refine z_iadd hx hb dX7_crane_65 ?_
          refine w_put (ty := .int) (z := (σ 0 5) + 1) (C := RX7) (T := TX7) (N := 9) hx hb hts inX7 tyX7 tyX7_ok nmX7 hown hK hP hD hS 0 (by omega) (ci := 9) (fs := fS a) (fun _ => wc_S) rfl 5 (by decide) k57 (fun _ h9 => h9) rfl (by decide +kernel) rfl rfl (Nat.le_of_ble_eq_true rfl) rfl dX7_crane_66 (fun H locs hP hD hS => ?_)
          obtain ⟨σp66, eσp66⟩ : ∃ z, z = up2 σ 0 5 ((σ 0 5) + 1) := ⟨_, rfl⟩
          rw [← eσp66] at hP hD
          refine lv_aload_n hx hb dX7_crane_69 rfl (lv_at hl 0 rfl) ?_
          refine lv_iload_n hx hb dX7_crane_70 rfl (lv_at hl 2 rfl) ?_
          refine w_put (ty := .int) (z := re) (C := RX0) (T := TX0) (N := 12) hx hb hts inX0 tyX0 tyX0_ok nmX0 hown hK hP hD hS (3 + n) (by omega) (ci := 2) (fs := fC) (fun _ => wc_C (i := n) (by first | assumption | omega)) rfl 1 (by decide) k66 (fun _ h9 => h9) rfl (by decide +kernel) rfl rfl (Nat.le_of_ble_eq_true rfl) rfl dX7_crane_71 (fun H locs hP hD hS => ?_)
          obtain ⟨σp71, eσp71⟩ : ∃ z, z = up2 σp66 (3 + n) 1 (re) := ⟨_, rfl⟩
          rw [← eσp71] at hP hD
          refine lv_aload_n hx hb dX7_crane_74 rfl (lv_at hl 0 rfl) ?_
          refine lv_iload_n hx hb dX7_crane_75 rfl (lv_at hl 3 rfl) ?_
          refine w_put (ty := .int) (z := fa) (C := RX0) (T := TX0) (N := 12) hx hb hts inX0 tyX0 tyX0_ok nmX0 hown hK hP hD hS (3 + n) (by omega) (ci := 2) (fs := fC) (fun _ => wc_C (i := n) (by first | assumption | omega)) rfl 2 (by decide) k69 (fun _ h9 => h9) rfl (by decide +kernel) rfl rfl (Nat.le_of_ble_eq_true rfl) rfl dX7_crane_76 (fun H locs hP hD hS => ?_)
          obtain ⟨σp76, eσp76⟩ : ∃ z, z = up2 σp71 (3 + n) 2 (fa) := ⟨_, rfl⟩
          rw [← eσp76] at hP hD
          refine lv_aload_n hx hb dX7_crane_79 rfl (lv_at hl 0 rfl) ?_
          refine lv_bipush (v := zI 10) hx hb dX7_crane_80 (by decide +kernel) ?_
          refine w_put (ty := .int) (z := 10) (C := RX0) (T := TX0) (N := 12) hx hb hts inX0 tyX0 tyX0_ok nmX0 hown hK hP hD hS (3 + n) (by omega) (ci := 2) (fs := fC) (fun _ => wc_C (i := n) (by first | assumption | omega)) rfl 4 (by decide) k72 (fun _ h9 => h9) rfl (by decide +kernel) rfl rfl (Nat.le_of_ble_eq_true rfl) rfl dX7_crane_82 (fun H locs hP hD hS => ?_)
          obtain ⟨σp82, eσp82⟩ : ∃ z, z = up2 σp76 (3 + n) 4 (10) := ⟨_, rfl⟩
          rw [← eσp82] at hP hD
          refine lv_aload_n hx hb dX7_crane_85 rfl (lv_at hl 0 rfl) ?_
          refine lv_aload_n hx hb dX7_crane_86 rfl (lv_at hl 1 rfl) ?_
          refine va_get (D := D) (ci := 9) (v := .ref (a 1)) (C := RX7) (T := TX7) (N := 9) hx hb hts inX7 hown hK hP 0 wg_S rfl 0 (by decide) k10 (fun _ h9 => h9) rfl dX7_crane_87 ?_
          have fw5 : σp82 1 5 = σ 1 5 := by rw [eσp82, g_ne (by omega), eσp76, g_ne (by omega), eσp71, g_ne (by omega), eσp66, g_ne (by omega)]
          refine va_calli (va_runV (As := []) (rest := [.ref (a (3 + n))]) ⟨hx, hb, hml, hown, hts⟩ (c_X5_isStorm l D cy a q σp82 H.size (by rw [fw5]; omega)) (cwV 0 hts gX7_crane_X5_isStorm rfl rfl rfl (by decide +kernel) ⟨Nat.le_of_ble_eq_true rfl, Nat.le_of_ble_eq_true rfl⟩) ⟨Wd_blind, va_recv hK hP (ci := 7) (q0 := 1) rfl wg_W, fun U hU hW => ⟨rfl, by rw [hU], Wd_mk (wP_left hP) hE0 hS hU hW⟩⟩ rfl rfl hl.1 rfl (lv_room (Nat.le_of_ble_eq_true rfl)) dX7_crane_90 ⟨(show 0 + 0 + 0 ≤ 1 by omega), (show 0 + 0 + 0 ≤ 6 by omega)⟩) hS (fun _ _ h => h.elim) (fun _ h => wF_mono hS.1 _ h) (fun rv90 u9 t9 H locs ht hvm hw hB hz hk hS1 => ?_)
          have hP := hP.kept (fun k x hk9 => hk x.1 ((hP k x hk9).lt) (fun h => h))
          have hS := hS1
          rcases hw with ⟨rfl, bd90⟩ | ⟨rfl, bd90⟩
          · skip
            rw [fw5] at bd90
            refine z_if_ne (tgt := 100) hx hb dX7_crane_93 (by decide) (by decide) (fun _ => ?_) (fun cd93 => absurd cd93 (by decide))
            refine lv_iconst (v := zI 0) hx hb dX7_crane_100 rfl ?_
            refine w_put (ty := .boolean) (z := 0) (C := RX0) (T := TX0) (N := 12) hx hb hts inX0 tyX0 tyX0_ok nmX0 hown hK hP hD hS (3 + n) (by omega) (ci := 2) (fs := fC) (fun _ => wc_C (i := n) (by first | assumption | omega)) rfl 5 (by decide) k79 (fun _ h9 => h9) rfl (by decide +kernel) rfl rfl (Nat.le_of_ble_eq_true rfl) rfl dX7_crane_101 (fun H locs hP hD hS => ?_)
            obtain ⟨σp101, eσp101⟩ : ∃ z, z = up2 σp82 (3 + n) 5 (0) := ⟨_, rfl⟩
            rw [← eσp101] at hP hD
            refine lv_aload_n hx hb dX7_crane_104 rfl (lv_at hl 0 rfl) ?_
            refine va_get (D := D) (ci := 2) (v := .int (zI (σ (3 + n) 0))) (C := RX0) (T := TX0) (N := 12) hx hb hts inX0 hown hK hP (3 + n) (wg_C (i := n) (by first | assumption | omega)) rfl 0 (by decide) k83 (fun _ h9 => h9) (by show some (Value.int (zI (σp101 (3 + n) 0))) = some (Value.int (zI (σ (3 + n) 0))); rw [eσp101, g_fe (by decide), eσp82, g_fe (by decide), eσp76, g_fe (by decide), eσp71, g_fe (by decide), eσp66, g_ne (by omega)]) dX7_crane_105 ?_
            refine vx_ret ?_
            refine W.widen (k := 1) (n := 6) (by omega) (by omega) ?_
            have eR : σp101 = upR (upR σ 0 (upr (σ 0) 5 (σ 0 5 + 1))) (3 + n) (upr (upr (upr (upr (σ (3 + n)) 1 re) 2 fa) 4 10) 5 0) := by
              rw [eσp101, eσp82, eσp76, eσp71, eσp66]
              simp only [up2, upR_s, upR_R, upR_n (show 3 + n ≠ 0 by omega)]
            have h15 : σp101 1 5 = σ 1 5 := by rw [eR, upR_n (by omega), upR_n (by omega)]
            have hO1 : okA t0 (σ 1 5) q σp101 := by
              rw [eR]
              refine okA_crane hO hn.symm (by omega) ?_ rfl ?_
              · show 0 ≤ σ 0 5 + 1 ∧ σ 0 5 + 1 ≤ 3 ∧ 0 ≤ σ 0 6 ∧ σ 0 6 ≤ 6 ∧ 0 ≤ σ 0 7 ∧ σ 0 7 ≤ 6 ∧ 0 ≤ σ 0 8 ∧ σ 0 8 ≤ t0 ∧ 0 ≤ t0 ∧ t0 ≤ 1000000
                omega
              · show σ (3 + n) 0 = n ∧ 0 ≤ σ (3 + n) 3 ∧ σ (3 + n) 3 ≤ 23 ∧ ((0 : Int) = 0 ∨ (0 : Int) = 1) ∧ (0 ≤ σ (3 + n) 9 ∧ σ (3 + n) 9 ≤ σ (3 + n) 8 ∧ σ (3 + n) 8 ≤ σ (3 + n) 7 ∧ σ (3 + n) 7 ≤ σ (3 + n) 6 ∧ σ (3 + n) 6 ≤ 99) ∧ 0 ≤ σ (3 + n) 10 ∧ σ (3 + n) 10 ≤ 1000 ∧ 0 ≤ σ (3 + n) 11 ∧ σ (3 + n) 11 ≤ t0 ∧ ((n : Int) < σ 0 5 + 1 → 10 ≤ (re : Int) ∧ (re : Int) ≤ 40 ∧ ((fa : Int) = 2 ∨ (fa : Int) = 4) ∧ 10 ≤ (10 : Int) ∧ (10 : Int) ≤ (re : Int) ∧ (12 < σ 1 5 → (0 : Int) = 0))
                omega
            have hO2 : okA (t0 + 1) (σp101 1 5) q σp101 := by
              rw [h15]
              exact okA_mono hO1 (by omega) (by omega)
            have hE2 : Ev σ σp101 := by
              rw [eR]
              refine Ev.tr (Ev_S (r := upr (σ 0) 5 (σ 0 5 + 1)) (Int.le_refl _) (show σ 0 5 ≤ σ 0 5 + 1 by omega)) (Ev_C (by omega) ?_)
              rw [upR_n (by omega)]
              exact Int.le_refl _
            have h05 : σp101 0 5 = σ 0 5 + 1 := by rw [eR, upR_n (by omega), upR_s]; rfl
            exact W.iret (v := zI (σ (3 + n) 0)) hx hb hr (fun t9 ht hW => ⟨⟨_, (q, σp101), rfl, ⟨_, rfl, ⟨hO2, hE2, h05⟩⟩, Wd_mk (wP_left hP) hE0 hS ht hW⟩, hS.F ht⟩) hS.2.2 dX7_crane_108
          · skip
            rw [fw5] at bd90
            refine z_if_ne (tgt := 100) hx hb dX7_crane_93 (by decide) (by decide) (fun cd93 => absurd cd93 (by decide)) (fun _ => ?_)
            refine lv_iconst (v := zI 1) hx hb dX7_crane_96 rfl ?_
            refine lv_goto (tgt := 101) hx hb dX7_crane_97 (by decide) ?_
            refine w_put (ty := .boolean) (z := 1) (C := RX0) (T := TX0) (N := 12) hx hb hts inX0 tyX0 tyX0_ok nmX0 hown hK hP hD hS (3 + n) (by omega) (ci := 2) (fs := fC) (fun _ => wc_C (i := n) (by first | assumption | omega)) rfl 5 (by decide) k79 (fun _ h9 => h9) rfl (by decide +kernel) rfl rfl (Nat.le_of_ble_eq_true rfl) rfl dX7_crane_101 (fun H locs hP hD hS => ?_)
            obtain ⟨σp101, eσp101⟩ : ∃ z, z = up2 σp82 (3 + n) 5 (1) := ⟨_, rfl⟩
            rw [← eσp101] at hP hD
            refine lv_aload_n hx hb dX7_crane_104 rfl (lv_at hl 0 rfl) ?_
            refine va_get (D := D) (ci := 2) (v := .int (zI (σ (3 + n) 0))) (C := RX0) (T := TX0) (N := 12) hx hb hts inX0 hown hK hP (3 + n) (wg_C (i := n) (by first | assumption | omega)) rfl 0 (by decide) k83 (fun _ h9 => h9) (by show some (Value.int (zI (σp101 (3 + n) 0))) = some (Value.int (zI (σ (3 + n) 0))); rw [eσp101, g_fe (by decide), eσp82, g_fe (by decide), eσp76, g_fe (by decide), eσp71, g_fe (by decide), eσp66, g_ne (by omega)]) dX7_crane_105 ?_
            refine vx_ret ?_
            refine W.widen (k := 1) (n := 6) (by omega) (by omega) ?_
            have eR : σp101 = upR (upR σ 0 (upr (σ 0) 5 (σ 0 5 + 1))) (3 + n) (upr (upr (upr (upr (σ (3 + n)) 1 re) 2 fa) 4 10) 5 1) := by
              rw [eσp101, eσp82, eσp76, eσp71, eσp66]
              simp only [up2, upR_s, upR_R, upR_n (show 3 + n ≠ 0 by omega)]
            have h15 : σp101 1 5 = σ 1 5 := by rw [eR, upR_n (by omega), upR_n (by omega)]
            have hO1 : okA t0 (σ 1 5) q σp101 := by
              rw [eR]
              refine okA_crane hO hn.symm (by omega) ?_ rfl ?_
              · show 0 ≤ σ 0 5 + 1 ∧ σ 0 5 + 1 ≤ 3 ∧ 0 ≤ σ 0 6 ∧ σ 0 6 ≤ 6 ∧ 0 ≤ σ 0 7 ∧ σ 0 7 ≤ 6 ∧ 0 ≤ σ 0 8 ∧ σ 0 8 ≤ t0 ∧ 0 ≤ t0 ∧ t0 ≤ 1000000
                omega
              · show σ (3 + n) 0 = n ∧ 0 ≤ σ (3 + n) 3 ∧ σ (3 + n) 3 ≤ 23 ∧ ((1 : Int) = 0 ∨ (1 : Int) = 1) ∧ (0 ≤ σ (3 + n) 9 ∧ σ (3 + n) 9 ≤ σ (3 + n) 8 ∧ σ (3 + n) 8 ≤ σ (3 + n) 7 ∧ σ (3 + n) 7 ≤ σ (3 + n) 6 ∧ σ (3 + n) 6 ≤ 99) ∧ 0 ≤ σ (3 + n) 10 ∧ σ (3 + n) 10 ≤ 1000 ∧ 0 ≤ σ (3 + n) 11 ∧ σ (3 + n) 11 ≤ t0 ∧ ((n : Int) < σ 0 5 + 1 → 10 ≤ (re : Int) ∧ (re : Int) ≤ 40 ∧ ((fa : Int) = 2 ∨ (fa : Int) = 4) ∧ 10 ≤ (10 : Int) ∧ (10 : Int) ≤ (re : Int) ∧ (12 < σ 1 5 → (1 : Int) = 0))
                omega
            have hO2 : okA (t0 + 1) (σp101 1 5) q σp101 := by
              rw [h15]
              exact okA_mono hO1 (by omega) (by omega)
            have hE2 : Ev σ σp101 := by
              rw [eR]
              refine Ev.tr (Ev_S (r := upr (σ 0) 5 (σ 0 5 + 1)) (Int.le_refl _) (show σ 0 5 ≤ σ 0 5 + 1 by omega)) (Ev_C (by omega) ?_)
              rw [upR_n (by omega)]
              exact Int.le_refl _
            have h05 : σp101 0 5 = σ 0 5 + 1 := by rw [eR, upR_n (by omega), upR_s]; rfl
            exact W.iret (v := zI (σ (3 + n) 0)) hx hb hr (fun t9 ht hW => ⟨⟨_, (q, σp101), rfl, ⟨_, rfl, ⟨hO2, hE2, h05⟩⟩, Wd_mk (wP_left hP) hE0 hS ht hW⟩, hS.F ht⟩) hS.2.2 dX7_crane_108
        · skip
          obtain ⟨sa9, hsa9⟩ := hstr (63, "there are 3 cranes") (by decide)
          exact vx_throwS (names := ["java/lang/RuntimeException", "java/lang/Exception"]) (sa := sa9) hx hb hlT hown (by decide +kernel) (by decide +kernel) (hts (.classLink RX7 61 "java/lang/IllegalStateException") (by decide +kernel)) (hts (.initialized "java/lang/IllegalStateException") (by decide +kernel)) hsa9 (vx_hat (fun w h => hts w (vt65_X7_crane w h)) vf65 hnest.2.2.2.1.bad) vg65 hU0 hN0 hS (by rw [hml]; exact hl.1) dX7_crane_39 dX7_crane_42 dX7_crane_43 dX7_crane_45 dX7_crane_48 (fun x h => (hexc x h).elim) (Nat.le_of_ble_eq_true rfl) (Nat.le_of_ble_eq_true rfl) (show 0 + 0 + 1 ≤ 1 by omega) (show 0 + 0 + 6 ≤ 6 by omega) hlocks (fun t9 hvm9 hz9 hk9 => ⟨(), (by omega), okE_S, Nat.le_trans hS.1 hz9, fun x h9 _ => (hk9 x (Nat.lt_of_lt_of_le h9 hS.1)).trans (hk0 x h9)⟩) hS.2.2 (by omega) (by omega)
      · skip
        obtain ⟨sa9, hsa9⟩ := hstr (52, "reach is 10 to 40, falls 2 or 4") (by decide)
        exact vx_throwS (names := ["java/lang/RuntimeException", "java/lang/Exception"]) (sa := sa9) hx hb hlT hown (by decide +kernel) (by decide +kernel) (hts (.classLink RX7 50 "java/lang/IllegalArgumentException") (by decide +kernel)) (hts (.initialized "java/lang/IllegalArgumentException") (by decide +kernel)) hsa9 (vx_hat (fun w h => hts w (vt54_X7_crane w h)) vf54 hnest.2.2.1.bad) vg54 hU0 hN0 hS (by rw [hml]; exact hl.1) dX7_crane_21 dX7_crane_24 dX7_crane_25 dX7_crane_27 dX7_crane_30 (fun x h => (hexc x h).elim) (Nat.le_of_ble_eq_true rfl) (Nat.le_of_ble_eq_true rfl) (show 0 + 0 + 1 ≤ 1 by omega) (show 0 + 0 + 6 ≤ 6 by omega) hlocks (fun t9 hvm9 hz9 hk9 => ⟨(), (by omega), okE_A, Nat.le_trans hS.1 hz9, fun x h9 _ => (hk9 x (Nat.lt_of_lt_of_le h9 hS.1)).trans (hk0 x h9)⟩) hS.2.2 (by omega) (by omega)

set_option maxRecDepth 100000 in
theorem vt54_X7_zone : ∀ w ∈ (vx_atS RX7 54 "java/lang/IllegalArgumentException" ["java/lang/RuntimeException", "java/lang/Exception"]).filter goodWord, w ∈ wsX7_zone := by decide +kernel
set_option maxRecDepth 100000 in
theorem vt65_X7_zone : ∀ w ∈ (vx_atS RX7 65 "java/lang/IllegalStateException" ["java/lang/RuntimeException", "java/lang/Exception"]).filter goodWord, w ∈ wsX7_zone := by decide +kernel
set_option maxHeartbeats 4000000 in
set_option maxRecDepth 100000 in
/-- X7_zone -/
theorem c_X7_zone (l : Launch) (hlT : l.stackTraces = false) (D : va_G) (cy : Nat → ClassId) (a q : Nat → Nat) (σ : Nat → Nat → Int) (sz : Nat) (n0 : Int) (hn0 : rg n0) (fr : Int) (hfr : rg fr) (to : Int) (hto : rg to) (be : Int) (hbe : rg be) (un : Int) (hun : rg un) (t0 : Int) (hO : okA t0 (σ 1 5) q σ) (ht9 : t0 < 1000000) : vx_Met l yX7_zone wsX7_zone ({ frames := 10, cells := 2, slots := 12, locals := 400 }) (va_Pc [.ref (a 0), .int (zI (n0)), .int (zI (fr)), .int (zI (to)), .int (zI (be)), .int (zI (un))] (fun U => U.heap.size = sz ∧ Wd D cy a q σ U)) (va_Qi (fun (r : Int32) (u : ((Nat → Nat) × (Nat → Nat → Int))) => ∃ z : Int, r = zI z ∧ (okA (t0 + 1) (u.2 1 5) u.1 u.2 ∧ Ev σ u.2)) (fun (u : ((Nat → Nat) × (Nat → Nat → Int))) t => Wd D cy a u.1 u.2 t) (wF a sz)) (vx_X (fun (_ : Unit) => True) (fun E _ _ => okE E) (fun _ => False)) 2 12 (wF a sz) := by
  refine vx_ofW (cc := cX7_zone) (maxL := 8) (ret := (some .int)) (by decide) rfl ?_
  intro p e s m args below meth c s₁ B hml hexc hpc0
  obtain ⟨rfl, hsz, hW0⟩ := hpc0
  have hx := B.exec
  have hb := B.bytes
  have hr := B.returns
  have hts := atoms_spec (ws := wsX7_zone) B.pre
  have hown : s.vm.findClass RX7 = some m.cls := findClass_of_methodNamed B.named
  have hlocks := B.notSynchronized
  subst hsz
  obtain ⟨hP00, hE0⟩ := id hW0
  obtain ⟨hK, hinj, hU0, hN0, hstr, hnest⟩ := id hE0
  have hP : va_P D vwCl (wld cy a q σ ++ []) s.heap := by rw [List.append_nil]; exact hP00
  have hD : va_D (wF a s.heap.size) (wld cy a q σ ++ []) := wD_of hinj
  have hA : ∀ x : Nat, s.heap.size ≤ x → wF a s.heap.size x := fun _ h => Or.inr h
  have hS : va_S (wF a s.heap.size) s.heap s.heap [] := va_S.rf
  have hk0 : ∀ x : Nat, x < s.heap.size → s.heap[x]? = s.heap[x]? := fun _ _ => rfl
  have hl := lv_entry ([.ref (a 0), .int (zI (n0)), .int (zI (fr)), .int (zI (to)), .int (zI (be)), .int (zI (un))]) (n := 8) (Nat.le_of_ble_eq_true rfl)
  rw [lg_entry_eq]
  generalize (lg_sl ([.ref (a 0), .int (zI (n0)), .int (zI (fr)), .int (zI (to)), .int (zI (be)), .int (zI (un))]) ++ List.replicate (8 - (lg_sl ([.ref (a 0), .int (zI (n0)), .int (zI (fr)), .int (zI (to)), .int (zI (be)), .int (zI (un))])).length) Slot.unset).toArray = ls at hl ⊢
  have hl : lv_has ls 8 [(0, .ref (a 0)), (1, .int (zI (n0))), (2, .int (zI (fr))), (3, .int (zI (to))), (4, .int (zI (be))), (5, .int (zI (un)))] := hl
  have k27 := hts (.fieldLink RX7 27 "Slewfree" "zones" "[LSlewfree$Zone;") (by decide +kernel)
  have k83 := hts (.fieldLink RX7 83 "Slewfree$Crane" "number" "I") (by decide +kernel)
  have k117 := hts (.fieldLink RX7 117 "Slewfree" "zoneCount" "I") (by decide +kernel)
  have k122 := hts (.fieldLink RX7 122 "Slewfree$Zone" "crane" "I") (by decide +kernel)
  have k125 := hts (.fieldLink RX7 125 "Slewfree$Zone" "from" "I") (by decide +kernel)
  have k128 := hts (.fieldLink RX7 128 "Slewfree$Zone" "to" "I") (by decide +kernel)
  have k131 := hts (.fieldLink RX7 131 "Slewfree$Zone" "begin" "I") (by decide +kernel)
  have k134 := hts (.fieldLink RX7 134 "Slewfree$Zone" "until" "I") (by decide +kernel)
  have inX0 : ∀ w ∈ u_ws RX0 TX0 12, w ∈ wsX7_zone := by decide +kernel
  have inX6 : ∀ w ∈ u_ws RX6 TX6 5, w ∈ wsX7_zone := by decide +kernel
  have inX7 : ∀ w ∈ u_ws RX7 TX7 9, w ∈ wsX7_zone := by decide +kernel
  obtain ⟨oS, oW, oC, oZ, oM, oL, oP, oQ, oH⟩ := id hO
  unfold okS at oS; unfold okW at oW; unfold okL at oL
  refine lv_aload_n hx hb dX7_zone_0 rfl (lv_at hl 0 rfl) ?_
  refine lv_iload_n hx hb dX7_zone_1 rfl (lv_at hl 1 rfl) ?_
  refine vx_callr (vx_runV (As := [.int (zI (n0))]) (rest := []) ⟨hx, hb, hml, hown, hts⟩ (c_X7_craneAt l hlT D cy a q σ s.heap.size (n0) (by omega) (by first | assumption | omega)) (cwV 1 hts gX7_zone_X7_craneAt rfl rfl rfl (by decide +kernel) ⟨Nat.le_of_ble_eq_true rfl, Nat.le_of_ble_eq_true rfl⟩) ⟨Wd_blind, va_recv hK hP (ci := 9) (q0 := 0) rfl wg_S, fun U hU hW => ⟨rfl, by rw [hU], Wd_mk (wP_left hP) hE0 hS hU hW⟩⟩ rfl rfl hl.1 rfl (lv_room (Nat.le_of_ble_eq_true rfl)) dX7_zone_2 ⟨(show 0 + 1 ≤ 2 by omega), (show 0 + 6 ≤ 12 by omega)⟩) hS (fun _ _ h => h.elim) (fun _ h => wF_mono hS.1 _ h) (fun _ _ h => h.elim) (fun E9 ce9 q9 u9 t9 H locs ht hvm hpx hE hz hk hS1 hce hcv hcl => ?_) (fun u9 ra9 t9 H locs ht hvm hw hB hz hk hS1 => ?_)
  · skip
    refine vx_widen (k := 2) (n := 12) (by omega) (by omega) ?_
    exact vx_out (fun x h => (hexc x h).elim) hlocks hce hcv hcl (fun t9 ht9 hvm9 => ⟨(), trivial, hE, vF_R ht9 (Nat.le_trans hS.1 hz) (fun x h9 => (hk x (Nat.lt_of_lt_of_le h9 hS.1) (fun h => h)).trans (hk0 x h9))⟩) hS1.2.2 (Nat.le_refl _) (Nat.le_refl _)
  · skip
    have hP := hP.kept (fun k x hk9 => hk x.1 ((hP k x hk9).lt) (fun h => h))
    have hk0 : ∀ x : Nat, x < s.heap.size → H[x]? = s.heap[x]? := fun x h9 => (hk x (Nat.lt_of_lt_of_le h9 hS.1) (fun h => h)).trans (hk0 x h9)
    have hS := hS1
    subst hB
    obtain ⟨ic2, eic2⟩ : ∃ z : Nat, z = u9 := ⟨u9, rfl⟩
    rw [← eic2] at hw ⊢
    have hi2 := hw
    have oC_a := oC ic2 (by omega); unfold okC at oC_a
    refine lv_astore (lv' := [(6, .ref (a (3 + ic2))), (0, .ref (a 0)), (1, .int (zI (n0))), (2, .int (zI (fr))), (3, .int (zI (to))), (4, .int (zI (be))), (5, .int (zI (un)))]) hx hb dX7_zone_5 hl (by decide) rfl (fun ls hl => ?_)
    refine lv_iload_n hx hb dX7_zone_7 rfl (lv_at hl 3 rfl) ?_
    refine va_calli (va_runS (As := [.int (zI (fr))]) (rest := []) ⟨hx, hb, hml, hown, hts⟩ (c_X7_isNoAngle l (fr) (by omega)) (va_cwS 1 hts gX7_zone_X7_isNoAngle rfl rfl rfl (by decide +kernel) ⟨Nat.le_of_ble_eq_true rfl, Nat.le_of_ble_eq_true rfl⟩) ⟨fun _ _ _ _ h => h, fun _ _ _ => ⟨rfl, trivial⟩⟩ rfl rfl hl.1 rfl (lv_room (Nat.le_of_ble_eq_true rfl)) dX7_zone_8 ⟨(show 0 + 1 + 0 ≤ 2 by omega), (show 0 + 6 + 0 ≤ 12 by omega)⟩) hS (fun _ _ h => h.elim) (fun _ h => h.elim) (fun rv8 u9 t9 H locs ht hvm hw hB hz hk hS1 => ?_)
    have hP := hP.kept (fun k x hk9 => hk x.1 ((hP k x hk9).lt) (fun h => h))
    have hk0 : ∀ x : Nat, x < s.heap.size → H[x]? = s.heap[x]? := fun x h9 => (hk x (Nat.lt_of_lt_of_le h9 hS.1) (fun h => h)).trans (hk0 x h9)
    have hS := hS1
    rcases hw with ⟨rfl, bd8⟩ | ⟨rfl, bd8⟩
    · skip
      refine z_if_ne (tgt := 46) hx hb dX7_zone_11 (by decide) (by decide) (fun _ => ?_) (fun cd11 => absurd cd11 (by decide))
      obtain ⟨sa9, hsa9⟩ := hstr (115, "angles are 0 to 23, hours rise within 0 to 24") (by decide)
      exact vx_throwS (names := ["java/lang/RuntimeException", "java/lang/Exception"]) (sa := sa9) hx hb hlT hown (by decide +kernel) (by decide +kernel) (hts (.classLink RX7 50 "java/lang/IllegalArgumentException") (by decide +kernel)) (hts (.initialized "java/lang/IllegalArgumentException") (by decide +kernel)) hsa9 (vx_hat (fun w h => hts w (vt54_X7_zone w h)) vf54 hnest.2.2.1.bad) vg54 hU0 hN0 hS (by rw [hml]; exact hl.1) dX7_zone_46 dX7_zone_49 dX7_zone_50 dX7_zone_52 dX7_zone_55 (fun x h => (hexc x h).elim) (Nat.le_of_ble_eq_true rfl) (Nat.le_of_ble_eq_true rfl) (show 0 + 1 + 0 + 1 ≤ 2 by omega) (show 0 + 6 + 0 + 6 ≤ 12 by omega) hlocks (fun t9 hvm9 hz9 hk9 => ⟨(), trivial, okE_A, Nat.le_trans hS.1 hz9, fun x h9 _ => (hk9 x (Nat.lt_of_lt_of_le h9 hS.1)).trans (hk0 x h9)⟩) hS.2.2 (by omega) (by omega)
    · skip
      refine z_if_ne (tgt := 46) hx hb dX7_zone_11 (by decide) (by decide) (fun cd11 => absurd cd11 (by decide)) (fun _ => ?_)
      refine lv_iload_n hx hb dX7_zone_14 rfl (lv_at hl 4 rfl) ?_
      refine va_calli (va_runS (As := [.int (zI (to))]) (rest := []) ⟨hx, hb, hml, hown, hts⟩ (c_X7_isNoAngle l (to) (by omega)) (va_cwS 1 hts gX7_zone_X7_isNoAngle rfl rfl rfl (by decide +kernel) ⟨Nat.le_of_ble_eq_true rfl, Nat.le_of_ble_eq_true rfl⟩) ⟨fun _ _ _ _ h => h, fun _ _ _ => ⟨rfl, trivial⟩⟩ rfl rfl hl.1 rfl (lv_room (Nat.le_of_ble_eq_true rfl)) dX7_zone_15 ⟨(show 0 + 1 + 0 + 0 ≤ 2 by omega), (show 0 + 6 + 0 + 0 ≤ 12 by omega)⟩) hS (fun _ _ h => h.elim) (fun _ h => h.elim) (fun rv15 u9 t9 H locs ht hvm hw hB hz hk hS1 => ?_)
      have hP := hP.kept (fun k x hk9 => hk x.1 ((hP k x hk9).lt) (fun h => h))
      have hk0 : ∀ x : Nat, x < s.heap.size → H[x]? = s.heap[x]? := fun x h9 => (hk x (Nat.lt_of_lt_of_le h9 hS.1) (fun h => h)).trans (hk0 x h9)
      have hS := hS1
      rcases hw with ⟨rfl, bd15⟩ | ⟨rfl, bd15⟩
      · skip
        refine z_if_ne (tgt := 46) hx hb dX7_zone_18 (by decide) (by decide) (fun _ => ?_) (fun cd18 => absurd cd18 (by decide))
        obtain ⟨sa9, hsa9⟩ := hstr (115, "angles are 0 to 23, hours rise within 0 to 24") (by decide)
        exact vx_throwS (names := ["java/lang/RuntimeException", "java/lang/Exception"]) (sa := sa9) hx hb hlT hown (by decide +kernel) (by decide +kernel) (hts (.classLink RX7 50 "java/lang/IllegalArgumentException") (by decide +kernel)) (hts (.initialized "java/lang/IllegalArgumentException") (by decide +kernel)) hsa9 (vx_hat (fun w h => hts w (vt54_X7_zone w h)) vf54 hnest.2.2.1.bad) vg54 hU0 hN0 hS (by rw [hml]; exact hl.1) dX7_zone_46 dX7_zone_49 dX7_zone_50 dX7_zone_52 dX7_zone_55 (fun x h => (hexc x h).elim) (Nat.le_of_ble_eq_true rfl) (Nat.le_of_ble_eq_true rfl) (show 0 + 1 + 0 + 0 + 1 ≤ 2 by omega) (show 0 + 6 + 0 + 0 + 6 ≤ 12 by omega) hlocks (fun t9 hvm9 hz9 hk9 => ⟨(), trivial, okE_A, Nat.le_trans hS.1 hz9, fun x h9 _ => (hk9 x (Nat.lt_of_lt_of_le h9 hS.1)).trans (hk0 x h9)⟩) hS.2.2 (by omega) (by omega)
      · skip
        refine z_if_ne (tgt := 46) hx hb dX7_zone_18 (by decide) (by decide) (fun cd18 => absurd cd18 (by decide)) (fun _ => ?_)
        refine lv_iload hx hb dX7_zone_21 (lv_at hl 5 rfl) ?_
        refine lv_iconst (v := zI 0) hx hb dX7_zone_23 rfl ?_
        refine lv_bipush (v := zI 23) hx hb dX7_zone_24 (by decide +kernel) ?_
        refine va_calli (va_runS (As := [.int (zI (be)), .int (zI (0)), .int (zI (23))]) (rest := []) ⟨hx, hb, hml, hown, hts⟩ (c_X7_isOutside l (be) (by omega) (0) (by omega) (23) (by omega)) (va_cwS 3 hts gX7_zone_X7_isOutside rfl rfl rfl (by decide +kernel) ⟨Nat.le_of_ble_eq_true rfl, Nat.le_of_ble_eq_true rfl⟩) ⟨fun _ _ _ _ h => h, fun _ _ _ => ⟨rfl, trivial⟩⟩ rfl rfl hl.1 rfl (lv_room (Nat.le_of_ble_eq_true rfl)) dX7_zone_26 ⟨(show 0 + 1 + 0 + 0 + 0 ≤ 2 by omega), (show 0 + 6 + 0 + 0 + 0 ≤ 12 by omega)⟩) hS (fun _ _ h => h.elim) (fun _ h => h.elim) (fun rv26 u9 t9 H locs ht hvm hw hB hz hk hS1 => ?_)
        have hP := hP.kept (fun k x hk9 => hk x.1 ((hP k x hk9).lt) (fun h => h))
        have hk0 : ∀ x : Nat, x < s.heap.size → H[x]? = s.heap[x]? := fun x h9 => (hk x (Nat.lt_of_lt_of_le h9 hS.1) (fun h => h)).trans (hk0 x h9)
        have hS := hS1
        rcases hw with ⟨rfl, bd26⟩ | ⟨rfl, bd26⟩
        · skip
          refine z_if_ne (tgt := 46) hx hb dX7_zone_29 (by decide) (by decide) (fun _ => ?_) (fun cd29 => absurd cd29 (by decide))
          obtain ⟨sa9, hsa9⟩ := hstr (115, "angles are 0 to 23, hours rise within 0 to 24") (by decide)
          exact vx_throwS (names := ["java/lang/RuntimeException", "java/lang/Exception"]) (sa := sa9) hx hb hlT hown (by decide +kernel) (by decide +kernel) (hts (.classLink RX7 50 "java/lang/IllegalArgumentException") (by decide +kernel)) (hts (.initialized "java/lang/IllegalArgumentException") (by decide +kernel)) hsa9 (vx_hat (fun w h => hts w (vt54_X7_zone w h)) vf54 hnest.2.2.1.bad) vg54 hU0 hN0 hS (by rw [hml]; exact hl.1) dX7_zone_46 dX7_zone_49 dX7_zone_50 dX7_zone_52 dX7_zone_55 (fun x h => (hexc x h).elim) (Nat.le_of_ble_eq_true rfl) (Nat.le_of_ble_eq_true rfl) (show 0 + 1 + 0 + 0 + 0 + 1 ≤ 2 by omega) (show 0 + 6 + 0 + 0 + 0 + 6 ≤ 12 by omega) hlocks (fun t9 hvm9 hz9 hk9 => ⟨(), trivial, okE_A, Nat.le_trans hS.1 hz9, fun x h9 _ => (hk9 x (Nat.lt_of_lt_of_le h9 hS.1)).trans (hk0 x h9)⟩) hS.2.2 (by omega) (by omega)
        · skip
          refine z_if_ne (tgt := 46) hx hb dX7_zone_29 (by decide) (by decide) (fun cd29 => absurd cd29 (by decide)) (fun _ => ?_)
          refine lv_iload hx hb dX7_zone_32 (lv_at hl 6 rfl) ?_
          refine lv_iload hx hb dX7_zone_34 (lv_at hl 5 rfl) ?_
          refine lv_iconst (v := zI 1) hx hb dX7_zone_36 rfl ?_
          refine z_iadd hx hb dX7_zone_37 ?_
          refine lv_bipush (v := zI 24) hx hb dX7_zone_38 (by decide +kernel) ?_
          refine va_calli (va_runS (As := [.int (zI (un)), .int (zI (be + 1)), .int (zI (24))]) (rest := []) ⟨hx, hb, hml, hown, hts⟩ (c_X7_isOutside l (un) (by omega) (be + 1) (by omega) (24) (by omega)) (va_cwS 3 hts gX7_zone_X7_isOutside rfl rfl rfl (by decide +kernel) ⟨Nat.le_of_ble_eq_true rfl, Nat.le_of_ble_eq_true rfl⟩) ⟨fun _ _ _ _ h => h, fun _ _ _ => ⟨rfl, trivial⟩⟩ rfl rfl hl.1 rfl (lv_room (Nat.le_of_ble_eq_true rfl)) dX7_zone_40 ⟨(show 0 + 1 + 0 + 0 + 0 + 0 ≤ 2 by omega), (show 0 + 6 + 0 + 0 + 0 + 0 ≤ 12 by omega)⟩) hS (fun _ _ h => h.elim) (fun _ h => h.elim) (fun rv40 u9 t9 H locs ht hvm hw hB hz hk hS1 => ?_)
          have hP := hP.kept (fun k x hk9 => hk x.1 ((hP k x hk9).lt) (fun h => h))
          have hk0 : ∀ x : Nat, x < s.heap.size → H[x]? = s.heap[x]? := fun x h9 => (hk x (Nat.lt_of_lt_of_le h9 hS.1) (fun h => h)).trans (hk0 x h9)
          have hS := hS1
          rcases hw with ⟨rfl, bd40⟩ | ⟨rfl, bd40⟩
          · skip
            refine z_if_eq (tgt := 56) hx hb dX7_zone_43 (by decide) (by decide) (fun cd43 => absurd cd43 (by decide)) (fun _ => ?_)
            obtain ⟨sa9, hsa9⟩ := hstr (115, "angles are 0 to 23, hours rise within 0 to 24") (by decide)
            exact vx_throwS (names := ["java/lang/RuntimeException", "java/lang/Exception"]) (sa := sa9) hx hb hlT hown (by decide +kernel) (by decide +kernel) (hts (.classLink RX7 50 "java/lang/IllegalArgumentException") (by decide +kernel)) (hts (.initialized "java/lang/IllegalArgumentException") (by decide +kernel)) hsa9 (vx_hat (fun w h => hts w (vt54_X7_zone w h)) vf54 hnest.2.2.1.bad) vg54 hU0 hN0 hS (by rw [hml]; exact hl.1) dX7_zone_46 dX7_zone_49 dX7_zone_50 dX7_zone_52 dX7_zone_55 (fun x h => (hexc x h).elim) (Nat.le_of_ble_eq_true rfl) (Nat.le_of_ble_eq_true rfl) (show 0 + 1 + 0 + 0 + 0 + 0 + 1 ≤ 2 by omega) (show 0 + 6 + 0 + 0 + 0 + 0 + 6 ≤ 12 by omega) hlocks (fun t9 hvm9 hz9 hk9 => ⟨(), trivial, okE_A, Nat.le_trans hS.1 hz9, fun x h9 _ => (hk9 x (Nat.lt_of_lt_of_le h9 hS.1)).trans (hk0 x h9)⟩) hS.2.2 (by omega) (by omega)
          · skip
            refine z_if_eq (tgt := 56) hx hb dX7_zone_43 (by decide) (by decide) (fun _ => ?_) (fun cd43 => absurd cd43 (by decide))
            refine lv_aload_n hx hb dX7_zone_56 rfl (lv_at hl 1 rfl) ?_
            refine va_get (D := D) (ci := 9) (v := .int (zI (σ 0 6))) (C := RX7) (T := TX7) (N := 9) hx hb hts inX7 hown hK hP 0 wg_S rfl 6 (by decide) k117 (fun _ h9 => h9) rfl dX7_zone_57 ?_
            refine lv_bipush (v := zI 6) hx hb dX7_zone_60 (by decide +kernel) ?_
            refine z_icmp_lt (tgt := 75) hx hb dX7_zone_62 (by decide) (by omega) (by omega) (fun cd62 => ?_) (fun cd62 => ?_)
            · skip
              obtain ⟨n, hn⟩ : ∃ n : Nat, σ 0 6 = (n : Int) := ⟨(σ 0 6).toNat, by omega⟩
              refine lv_aload_n hx hb dX7_zone_75 rfl (lv_at hl 1 rfl) ?_
              refine va_get (D := D) (ci := 9) (v := .ref (a 6)) (C := RX7) (T := TX7) (N := 9) hx hb hts inX7 hown hK hP 0 wg_S rfl 2 (by decide) k27 (fun _ h9 => h9) rfl dX7_zone_76 ?_
              refine lv_aload_n hx hb dX7_zone_79 rfl (lv_at hl 1 rfl) ?_
              refine va_get (D := D) (ci := 9) (v := .int (zI (σ 0 6))) (C := RX7) (T := TX7) (N := 9) hx hb hts inX7 hown hK hP 0 wg_S rfl 6 (by decide) k117 (fun _ h9 => h9) rfl dX7_zone_80 ?_
              refine z_aald (i := n) hx hb hK hP 6 1 wg_AZ rfl (by omega) (by omega) (by omega) dX7_zone_83 ?_
              refine lv_astore (lv' := [(7, .ref (a (7 + n))), (6, .ref (a (3 + ic2))), (0, .ref (a 0)), (1, .int (zI (n0))), (2, .int (zI (fr))), (3, .int (zI (to))), (4, .int (zI (be))), (5, .int (zI (un)))]) hx hb dX7_zone_84 hl (by decide) rfl (fun ls hl => ?_)
              refine lv_aload_n hx hb dX7_zone_86 rfl (lv_at hl 2 rfl) ?_
              refine lv_dup hx hb dX7_zone_87 rfl ?_
              refine va_get (D := D) (ci := 9) (v := .int (zI (σ 0 6))) (C := RX7) (T := TX7) (N := 9) hx hb hts inX7 hown hK hP 0 wg_S rfl 6 (by decide) k117 (fun _ h9 => h9) rfl dX7_zone_88 ?_
              refine lv_iconst (v := zI 1) hx hb dX7_zone_91 rfl ?_
              refine z_iadd hx hb dX7_zone_92 ?_
              refine w_put (ty := .int) (z := (σ 0 6) + 1) (C := RX7) (T := TX7) (N := 9) hx hb hts inX7 tyX7 tyX7_ok nmX7 hown hK hP hD hS 0 (by omega) (ci := 9) (fs := fS a) (fun _ => wc_S) rfl 6 (by decide) k117 (fun _ h9 => h9) rfl (by decide +kernel) rfl rfl (Nat.le_of_ble_eq_true rfl) rfl dX7_zone_93 (fun H locs hP hD hS => ?_)
              obtain ⟨σp93, eσp93⟩ : ∃ z, z = up2 σ 0 6 ((σ 0 6) + 1) := ⟨_, rfl⟩
              rw [← eσp93] at hP hD
              refine lv_aload hx hb dX7_zone_96 (lv_at hl 0 rfl) ?_
              refine lv_aload hx hb dX7_zone_98 (lv_at hl 1 rfl) ?_
              refine va_get (D := D) (ci := 2) (v := .int (zI (σ (3 + ic2) 0))) (C := RX0) (T := TX0) (N := 12) hx hb hts inX0 hown hK hP (3 + ic2) (wg_C (i := ic2) (by first | assumption | omega)) rfl 0 (by decide) k83 (fun _ h9 => h9) (by show some (Value.int (zI (σp93 (3 + ic2) 0))) = some (Value.int (zI (σ (3 + ic2) 0))); rw [eσp93, g_ne (by omega)]) dX7_zone_100 ?_
              refine w_put (ty := .int) (z := σ (3 + ic2) 0) (C := RX6) (T := TX6) (N := 5) hx hb hts inX6 tyX6 tyX6_ok nmX6 hown hK hP hD hS (7 + n) (by omega) (ci := 8) (fs := fZ) (fun _ => wc_Z (i := n) (by first | assumption | omega)) rfl 0 (by decide) k122 (fun _ h9 => h9) rfl (by decide +kernel) rfl rfl (Nat.le_of_ble_eq_true rfl) rfl dX7_zone_103 (fun H locs hP hD hS => ?_)
              obtain ⟨σp103, eσp103⟩ : ∃ z, z = up2 σp93 (7 + n) 0 (σ (3 + ic2) 0) := ⟨_, rfl⟩
              rw [← eσp103] at hP hD
              refine lv_aload hx hb dX7_zone_106 (lv_at hl 0 rfl) ?_
              refine lv_iload_n hx hb dX7_zone_108 rfl (lv_at hl 4 rfl) ?_
              refine w_put (ty := .int) (z := fr) (C := RX6) (T := TX6) (N := 5) hx hb hts inX6 tyX6 tyX6_ok nmX6 hown hK hP hD hS (7 + n) (by omega) (ci := 8) (fs := fZ) (fun _ => wc_Z (i := n) (by first | assumption | omega)) rfl 1 (by decide) k125 (fun _ h9 => h9) rfl (by decide +kernel) rfl rfl (Nat.le_of_ble_eq_true rfl) rfl dX7_zone_109 (fun H locs hP hD hS => ?_)
              obtain ⟨σp109, eσp109⟩ : ∃ z, z = up2 σp103 (7 + n) 1 (fr) := ⟨_, rfl⟩
              rw [← eσp109] at hP hD
              refine lv_aload hx hb dX7_zone_112 (lv_at hl 0 rfl) ?_
              refine lv_iload_n hx hb dX7_zone_114 rfl (lv_at hl 5 rfl) ?_
              refine w_put (ty := .int) (z := to) (C := RX6) (T := TX6) (N := 5) hx hb hts inX6 tyX6 tyX6_ok nmX6 hown hK hP hD hS (7 + n) (by omega) (ci := 8) (fs := fZ) (fun _ => wc_Z (i := n) (by first | assumption | omega)) rfl 2 (by decide) k128 (fun _ h9 => h9) rfl (by decide +kernel) rfl rfl (Nat.le_of_ble_eq_true rfl) rfl dX7_zone_115 (fun H locs hP hD hS => ?_)
              obtain ⟨σp115, eσp115⟩ : ∃ z, z = up2 σp109 (7 + n) 2 (to) := ⟨_, rfl⟩
              rw [← eσp115] at hP hD
              refine lv_aload hx hb dX7_zone_118 (lv_at hl 0 rfl) ?_
              refine lv_iload hx hb dX7_zone_120 (lv_at hl 6 rfl) ?_
              refine w_put (ty := .int) (z := be) (C := RX6) (T := TX6) (N := 5) hx hb hts inX6 tyX6 tyX6_ok nmX6 hown hK hP hD hS (7 + n) (by omega) (ci := 8) (fs := fZ) (fun _ => wc_Z (i := n) (by first | assumption | omega)) rfl 3 (by decide) k131 (fun _ h9 => h9) rfl (by decide +kernel) rfl rfl (Nat.le_of_ble_eq_true rfl) rfl dX7_zone_122 (fun H locs hP hD hS => ?_)
              obtain ⟨σp122, eσp122⟩ : ∃ z, z = up2 σp115 (7 + n) 3 (be) := ⟨_, rfl⟩
              rw [← eσp122] at hP hD
              refine lv_aload hx hb dX7_zone_125 (lv_at hl 0 rfl) ?_
              refine lv_iload hx hb dX7_zone_127 (lv_at hl 7 rfl) ?_
              refine w_put (ty := .int) (z := un) (C := RX6) (T := TX6) (N := 5) hx hb hts inX6 tyX6 tyX6_ok nmX6 hown hK hP hD hS (7 + n) (by omega) (ci := 8) (fs := fZ) (fun _ => wc_Z (i := n) (by first | assumption | omega)) rfl 4 (by decide) k134 (fun _ h9 => h9) rfl (by decide +kernel) rfl rfl (Nat.le_of_ble_eq_true rfl) rfl dX7_zone_129 (fun H locs hP hD hS => ?_)
              obtain ⟨σp129, eσp129⟩ : ∃ z, z = up2 σp122 (7 + n) 4 (un) := ⟨_, rfl⟩
              rw [← eσp129] at hP hD
              refine lv_aload_n hx hb dX7_zone_132 rfl (lv_at hl 2 rfl) ?_
              refine va_get (D := D) (ci := 9) (v := .int (zI ((σ 0 6) + 1))) (C := RX7) (T := TX7) (N := 9) hx hb hts inX7 hown hK hP 0 wg_S rfl 6 (by decide) k117 (fun _ h9 => h9) (by show some (Value.int (zI (σp129 0 6))) = some (Value.int (zI ((σ 0 6) + 1))); rw [eσp129, g_ne (by omega), eσp122, g_ne (by omega), eσp115, g_ne (by omega), eσp109, g_ne (by omega), eσp103, g_ne (by omega), eσp93, g_eq]) dX7_zone_133 ?_
              refine vx_ret ?_
              refine W.widen (k := 2) (n := 12) (by omega) (by omega) ?_
              have eR : σp129 = upR (upR σ 0 (upr (σ 0) 6 (σ 0 6 + 1))) (7 + n) (upr (upr (upr (upr (upr (σ (7 + n)) 0 (σ (3 + ic2) 0)) 1 fr) 2 to) 3 be) 4 un) := by
                rw [eσp129, eσp122, eσp115, eσp109, eσp103, eσp93]
                simp only [up2, upR_s, upR_R, upR_n (show 7 + n ≠ 0 by omega)]
              have h15 : σp129 1 5 = σ 1 5 := by rw [eR, upR_n (by omega), upR_n (by omega)]
              have hO1 : okA t0 (σ 1 5) q σp129 := by
                rw [eR]
                refine okA_Z (okA_S hO ?_ rfl) (by omega) ?_
                · show 0 ≤ σ 0 5 ∧ σ 0 5 ≤ 3 ∧ 0 ≤ σ 0 6 + 1 ∧ σ 0 6 + 1 ≤ 6 ∧ 0 ≤ σ 0 7 ∧ σ 0 7 ≤ 6 ∧ 0 ≤ σ 0 8 ∧ σ 0 8 ≤ t0 ∧ 0 ≤ t0 ∧ t0 ≤ 1000000
                  omega
                · show 0 ≤ σ (3 + ic2) 0 ∧ σ (3 + ic2) 0 ≤ 24 ∧ 0 ≤ fr ∧ fr ≤ 24 ∧ 0 ≤ to ∧ to ≤ 24 ∧ 0 ≤ be ∧ be ≤ 24 ∧ 0 ≤ un ∧ un ≤ 24
                  omega
              have hO2 : okA (t0 + 1) (σp129 1 5) q σp129 := by
                rw [h15]
                exact okA_mono hO1 (by omega) (by omega)
              have hE2 : Ev σ σp129 := by rw [eR]; exact Ev.tr (Ev_S (r := upr (σ 0) 6 (σ 0 6 + 1)) (Int.le_refl _) (Int.le_refl _)) (Ev_O (by omega))
              exact W.iret (v := zI ((σ 0 6) + 1)) hx hb hr (fun t9 ht hW => ⟨⟨_, (q, σp129), rfl, ⟨_, rfl, ⟨hO2, hE2⟩⟩, Wd_mk (wP_left hP) hE0 hS ht hW⟩, hS.F ht⟩) hS.2.2 dX7_zone_136
            · skip
              obtain ⟨sa9, hsa9⟩ := hstr (120, "there are 6 zones") (by decide)
              exact vx_throwS (names := ["java/lang/RuntimeException", "java/lang/Exception"]) (sa := sa9) hx hb hlT hown (by decide +kernel) (by decide +kernel) (hts (.classLink RX7 61 "java/lang/IllegalStateException") (by decide +kernel)) (hts (.initialized "java/lang/IllegalStateException") (by decide +kernel)) hsa9 (vx_hat (fun w h => hts w (vt65_X7_zone w h)) vf65 hnest.2.2.2.1.bad) vg65 hU0 hN0 hS (by rw [hml]; exact hl.1) dX7_zone_65 dX7_zone_68 dX7_zone_69 dX7_zone_71 dX7_zone_74 (fun x h => (hexc x h).elim) (Nat.le_of_ble_eq_true rfl) (Nat.le_of_ble_eq_true rfl) (show 0 + 1 + 0 + 0 + 0 + 0 + 1 ≤ 2 by omega) (show 0 + 6 + 0 + 0 + 0 + 0 + 6 ≤ 12 by omega) hlocks (fun t9 hvm9 hz9 hk9 => ⟨(), trivial, okE_S, Nat.le_trans hS.1 hz9, fun x h9 _ => (hk9 x (Nat.lt_of_lt_of_le h9 hS.1)).trans (hk0 x h9)⟩) hS.2.2 (by omega) (by omega)

set_option maxRecDepth 100000 in
theorem vt54_X7_meeting : ∀ w ∈ (vx_atS RX7 54 "java/lang/IllegalArgumentException" ["java/lang/RuntimeException", "java/lang/Exception"]).filter goodWord, w ∈ wsX7_meeting := by decide +kernel
set_option maxRecDepth 100000 in
theorem vt65_X7_meeting : ∀ w ∈ (vx_atS RX7 65 "java/lang/IllegalStateException" ["java/lang/RuntimeException", "java/lang/Exception"]).filter goodWord, w ∈ wsX7_meeting := by decide +kernel
set_option maxHeartbeats 4000000 in
set_option maxRecDepth 100000 in
/-- X7_meeting -/
theorem c_X7_meeting (l : Launch) (hlT : l.stackTraces = false) (D : va_G) (cy : Nat → ClassId) (a q : Nat → Nat) (σ : Nat → Nat → Int) (sz : Nat) (n0 : Int) (hn0 : rg n0) (an : Int) (han : rg an) (n2 : Int) (hn2 : rg n2) (oan : Int) (hoan : rg oan) (t0 : Int) (hO : okA t0 (σ 1 5) q σ) (ht9 : t0 < 1000000) : vx_Met l yX7_meeting wsX7_meeting ({ frames := 10, cells := 3, slots := 18, locals := 400 }) (va_Pc [.ref (a 0), .int (zI (n0)), .int (zI (an)), .int (zI (n2)), .int (zI (oan))] (fun U => U.heap.size = sz ∧ Wd D cy a q σ U)) (va_Qi (fun (r : Int32) (u : ((Nat → Nat) × (Nat → Nat → Int))) => ∃ z : Int, r = zI z ∧ (okA (t0 + 1) (u.2 1 5) u.1 u.2 ∧ Ev σ u.2)) (fun (u : ((Nat → Nat) × (Nat → Nat → Int))) t => Wd D cy a u.1 u.2 t) (wF a sz)) (vx_X (fun (_ : Unit) => True) (fun E _ _ => okE E) (fun _ => False)) 3 18 (wF a sz) := by
  refine vx_ofW (cc := cX7_meeting) (maxL := 8) (ret := (some .int)) (by decide) rfl ?_
  intro p e s m args below meth c s₁ B hml hexc hpc0
  obtain ⟨rfl, hsz, hW0⟩ := hpc0
  have hx := B.exec
  have hb := B.bytes
  have hr := B.returns
  have hts := atoms_spec (ws := wsX7_meeting) B.pre
  have hown : s.vm.findClass RX7 = some m.cls := findClass_of_methodNamed B.named
  have hlocks := B.notSynchronized
  subst hsz
  obtain ⟨hP00, hE0⟩ := id hW0
  obtain ⟨hK, hinj, hU0, hN0, hstr, hnest⟩ := id hE0
  have hP : va_P D vwCl (wld cy a q σ ++ []) s.heap := by rw [List.append_nil]; exact hP00
  have hD : va_D (wF a s.heap.size) (wld cy a q σ ++ []) := wD_of hinj
  have hA : ∀ x : Nat, s.heap.size ≤ x → wF a s.heap.size x := fun _ h => Or.inr h
  have hS : va_S (wF a s.heap.size) s.heap s.heap [] := va_S.rf
  have hk0 : ∀ x : Nat, x < s.heap.size → s.heap[x]? = s.heap[x]? := fun _ _ => rfl
  have hl := lv_entry ([.ref (a 0), .int (zI (n0)), .int (zI (an)), .int (zI (n2)), .int (zI (oan))]) (n := 8) (Nat.le_of_ble_eq_true rfl)
  rw [lg_entry_eq]
  generalize (lg_sl ([.ref (a 0), .int (zI (n0)), .int (zI (an)), .int (zI (n2)), .int (zI (oan))]) ++ List.replicate (8 - (lg_sl ([.ref (a 0), .int (zI (n0)), .int (zI (an)), .int (zI (n2)), .int (zI (oan))])).length) Slot.unset).toArray = ls at hl ⊢
  have hl : lv_has ls 8 [(0, .ref (a 0)), (1, .int (zI (n0))), (2, .int (zI (an))), (3, .int (zI (n2))), (4, .int (zI (oan)))] := hl
  have k34 := hts (.fieldLink RX7 34 "Slewfree" "meetings" "[LSlewfree$Meeting;") (by decide +kernel)
  have k83 := hts (.fieldLink RX7 83 "Slewfree$Crane" "number" "I") (by decide +kernel)
  have k139 := hts (.fieldLink RX7 139 "Slewfree" "meetingCount" "I") (by decide +kernel)
  have k144 := hts (.fieldLink RX7 144 "Slewfree$Meeting" "one" "I") (by decide +kernel)
  have k147 := hts (.fieldLink RX7 147 "Slewfree$Meeting" "angle" "I") (by decide +kernel)
  have k150 := hts (.fieldLink RX7 150 "Slewfree$Meeting" "other" "I") (by decide +kernel)
  have k153 := hts (.fieldLink RX7 153 "Slewfree$Meeting" "otherAngle" "I") (by decide +kernel)
  have inX0 : ∀ w ∈ u_ws RX0 TX0 12, w ∈ wsX7_meeting := by decide +kernel
  have inX2 : ∀ w ∈ u_ws RX2 TX2 4, w ∈ wsX7_meeting := by decide +kernel
  have inX7 : ∀ w ∈ u_ws RX7 TX7 9, w ∈ wsX7_meeting := by decide +kernel
  obtain ⟨oS, oW, oC, oZ, oM, oL, oP, oQ, oH⟩ := id hO
  unfold okS at oS; unfold okW at oW; unfold okL at oL
  refine lv_aload_n hx hb dX7_meeting_0 rfl (lv_at hl 0 rfl) ?_
  refine lv_iload_n hx hb dX7_meeting_1 rfl (lv_at hl 1 rfl) ?_
  refine vx_callr (vx_runV (As := [.int (zI (n0))]) (rest := []) ⟨hx, hb, hml, hown, hts⟩ (c_X7_craneAt l hlT D cy a q σ s.heap.size (n0) (by omega) (by first | assumption | omega)) (cwV 1 hts gX7_meeting_X7_craneAt rfl rfl rfl (by decide +kernel) ⟨Nat.le_of_ble_eq_true rfl, Nat.le_of_ble_eq_true rfl⟩) ⟨Wd_blind, va_recv hK hP (ci := 9) (q0 := 0) rfl wg_S, fun U hU hW => ⟨rfl, by rw [hU], Wd_mk (wP_left hP) hE0 hS hU hW⟩⟩ rfl rfl hl.1 rfl (lv_room (Nat.le_of_ble_eq_true rfl)) dX7_meeting_2 ⟨(show 0 + 1 ≤ 3 by omega), (show 0 + 6 ≤ 18 by omega)⟩) hS (fun _ _ h => h.elim) (fun _ h => wF_mono hS.1 _ h) (fun _ _ h => h.elim) (fun E9 ce9 q9 u9 t9 H locs ht hvm hpx hE hz hk hS1 hce hcv hcl => ?_) (fun u9 ra9 t9 H locs ht hvm hw hB hz hk hS1 => ?_)
  · skip
    refine vx_widen (k := 3) (n := 18) (by omega) (by omega) ?_
    exact vx_out (fun x h => (hexc x h).elim) hlocks hce hcv hcl (fun t9 ht9 hvm9 => ⟨(), trivial, hE, vF_R ht9 (Nat.le_trans hS.1 hz) (fun x h9 => (hk x (Nat.lt_of_lt_of_le h9 hS.1) (fun h => h)).trans (hk0 x h9))⟩) hS1.2.2 (Nat.le_refl _) (Nat.le_refl _)
  · skip
    have hP := hP.kept (fun k x hk9 => hk x.1 ((hP k x hk9).lt) (fun h => h))
    have hk0 : ∀ x : Nat, x < s.heap.size → H[x]? = s.heap[x]? := fun x h9 => (hk x (Nat.lt_of_lt_of_le h9 hS.1) (fun h => h)).trans (hk0 x h9)
    have hS := hS1
    subst hB
    obtain ⟨ic2, eic2⟩ : ∃ z : Nat, z = u9 := ⟨u9, rfl⟩
    rw [← eic2] at hw ⊢
    have hi2 := hw
    have oC_a := oC ic2 (by omega); unfold okC at oC_a
    refine lv_astore (lv' := [(5, .ref (a (3 + ic2))), (0, .ref (a 0)), (1, .int (zI (n0))), (2, .int (zI (an))), (3, .int (zI (n2))), (4, .int (zI (oan)))]) hx hb dX7_meeting_5 hl (by decide) rfl (fun ls hl => ?_)
    refine lv_aload_n hx hb dX7_meeting_7 rfl (lv_at hl 1 rfl) ?_
    refine lv_iload_n hx hb dX7_meeting_8 rfl (lv_at hl 4 rfl) ?_
    refine vx_callr (vx_runV (As := [.int (zI (n2))]) (rest := []) ⟨hx, hb, hml, hown, hts⟩ (c_X7_craneAt l hlT D cy a q σ H.size (n2) (by omega) (by first | assumption | omega)) (cwV 1 hts gX7_meeting_X7_craneAt rfl rfl rfl (by decide +kernel) ⟨Nat.le_of_ble_eq_true rfl, Nat.le_of_ble_eq_true rfl⟩) ⟨Wd_blind, va_recv hK hP (ci := 9) (q0 := 0) rfl wg_S, fun U hU hW => ⟨rfl, by rw [hU], Wd_mk (wP_left hP) hE0 hS hU hW⟩⟩ rfl rfl hl.1 rfl (lv_room (Nat.le_of_ble_eq_true rfl)) dX7_meeting_9 ⟨(show 0 + 1 + 1 ≤ 3 by omega), (show 0 + 6 + 6 ≤ 18 by omega)⟩) hS (fun _ _ h => h.elim) (fun _ h => wF_mono hS.1 _ h) (fun _ _ h => h.elim) (fun E9 ce9 q9 u9 t9 H locs ht hvm hpx hE hz hk hS1 hce hcv hcl => ?_) (fun u9 ra9 t9 H locs ht hvm hw hB hz hk hS1 => ?_)
    · skip
      refine vx_widen (k := 3) (n := 18) (by omega) (by omega) ?_
      exact vx_out (fun x h => (hexc x h).elim) hlocks hce hcv hcl (fun t9 ht9 hvm9 => ⟨(), trivial, hE, vF_R ht9 (Nat.le_trans hS.1 hz) (fun x h9 => (hk x (Nat.lt_of_lt_of_le h9 hS.1) (fun h => h)).trans (hk0 x h9))⟩) hS1.2.2 (Nat.le_refl _) (Nat.le_refl _)
    · skip
      have hP := hP.kept (fun k x hk9 => hk x.1 ((hP k x hk9).lt) (fun h => h))
      have hk0 : ∀ x : Nat, x < s.heap.size → H[x]? = s.heap[x]? := fun x h9 => (hk x (Nat.lt_of_lt_of_le h9 hS.1) (fun h => h)).trans (hk0 x h9)
      have hS := hS1
      subst hB
      obtain ⟨ic9, eic9⟩ : ∃ z : Nat, z = u9 := ⟨u9, rfl⟩
      rw [← eic9] at hw ⊢
      have hi9 := hw
      have oC_b := oC ic9 (by omega); unfold okC at oC_b
      refine lv_astore (lv' := [(6, .ref (a (3 + ic9))), (5, .ref (a (3 + ic2))), (0, .ref (a 0)), (1, .int (zI (n0))), (2, .int (zI (an))), (3, .int (zI (n2))), (4, .int (zI (oan)))]) hx hb dX7_meeting_12 hl (by decide) rfl (fun ls hl => ?_)
      refine lv_iload_n hx hb dX7_meeting_14 rfl (lv_at hl 3 rfl) ?_
      refine lv_iload_n hx hb dX7_meeting_15 rfl (lv_at hl 5 rfl) ?_
      refine z_icmp_eq (tgt := 34) hx hb dX7_meeting_16 (by decide) (by omega) (by omega) (fun cd16 => ?_) (fun cd16 => ?_)
      · skip
        obtain ⟨sa9, hsa9⟩ := hstr (137, "two cranes meet, angles are 0 to 23") (by decide)
        exact vx_throwS (names := ["java/lang/RuntimeException", "java/lang/Exception"]) (sa := sa9) hx hb hlT hown (by decide +kernel) (by decide +kernel) (hts (.classLink RX7 50 "java/lang/IllegalArgumentException") (by decide +kernel)) (hts (.initialized "java/lang/IllegalArgumentException") (by decide +kernel)) hsa9 (vx_hat (fun w h => hts w (vt54_X7_meeting w h)) vf54 hnest.2.2.1.bad) vg54 hU0 hN0 hS (by rw [hml]; exact hl.1) dX7_meeting_34 dX7_meeting_37 dX7_meeting_38 dX7_meeting_40 dX7_meeting_43 (fun x h => (hexc x h).elim) (Nat.le_of_ble_eq_true rfl) (Nat.le_of_ble_eq_true rfl) (show 0 + 1 + 1 + 1 ≤ 3 by omega) (show 0 + 6 + 6 + 6 ≤ 18 by omega) hlocks (fun t9 hvm9 hz9 hk9 => ⟨(), trivial, okE_A, Nat.le_trans hS.1 hz9, fun x h9 _ => (hk9 x (Nat.lt_of_lt_of_le h9 hS.1)).trans (hk0 x h9)⟩) hS.2.2 (by omega) (by omega)
      · skip
        refine lv_iload_n hx hb dX7_meeting_19 rfl (lv_at hl 4 rfl) ?_
        refine va_calli (va_runS (As := [.int (zI (an))]) (rest := []) ⟨hx, hb, hml, hown, hts⟩ (c_X7_isNoAngle l (an) (by omega)) (va_cwS 1 hts gX7_meeting_X7_isNoAngle rfl rfl rfl (by decide +kernel) ⟨Nat.le_of_ble_eq_true rfl, Nat.le_of_ble_eq_true rfl⟩) ⟨fun _ _ _ _ h => h, fun _ _ _ => ⟨rfl, trivial⟩⟩ rfl rfl hl.1 rfl (lv_room (Nat.le_of_ble_eq_true rfl)) dX7_meeting_20 ⟨(show 0 + 1 + 1 + 0 ≤ 3 by omega), (show 0 + 6 + 6 + 0 ≤ 18 by omega)⟩) hS (fun _ _ h => h.elim) (fun _ h => h.elim) (fun rv20 u9 t9 H locs ht hvm hw hB hz hk hS1 => ?_)
        have hP := hP.kept (fun k x hk9 => hk x.1 ((hP k x hk9).lt) (fun h => h))
        have hk0 : ∀ x : Nat, x < s.heap.size → H[x]? = s.heap[x]? := fun x h9 => (hk x (Nat.lt_of_lt_of_le h9 hS.1) (fun h => h)).trans (hk0 x h9)
        have hS := hS1
        rcases hw with ⟨rfl, bd20⟩ | ⟨rfl, bd20⟩
        · skip
          refine z_if_ne (tgt := 34) hx hb dX7_meeting_23 (by decide) (by decide) (fun _ => ?_) (fun cd23 => absurd cd23 (by decide))
          obtain ⟨sa9, hsa9⟩ := hstr (137, "two cranes meet, angles are 0 to 23") (by decide)
          exact vx_throwS (names := ["java/lang/RuntimeException", "java/lang/Exception"]) (sa := sa9) hx hb hlT hown (by decide +kernel) (by decide +kernel) (hts (.classLink RX7 50 "java/lang/IllegalArgumentException") (by decide +kernel)) (hts (.initialized "java/lang/IllegalArgumentException") (by decide +kernel)) hsa9 (vx_hat (fun w h => hts w (vt54_X7_meeting w h)) vf54 hnest.2.2.1.bad) vg54 hU0 hN0 hS (by rw [hml]; exact hl.1) dX7_meeting_34 dX7_meeting_37 dX7_meeting_38 dX7_meeting_40 dX7_meeting_43 (fun x h => (hexc x h).elim) (Nat.le_of_ble_eq_true rfl) (Nat.le_of_ble_eq_true rfl) (show 0 + 1 + 1 + 0 + 1 ≤ 3 by omega) (show 0 + 6 + 6 + 0 + 6 ≤ 18 by omega) hlocks (fun t9 hvm9 hz9 hk9 => ⟨(), trivial, okE_A, Nat.le_trans hS.1 hz9, fun x h9 _ => (hk9 x (Nat.lt_of_lt_of_le h9 hS.1)).trans (hk0 x h9)⟩) hS.2.2 (by omega) (by omega)
        · skip
          refine z_if_ne (tgt := 34) hx hb dX7_meeting_23 (by decide) (by decide) (fun cd23 => absurd cd23 (by decide)) (fun _ => ?_)
          refine lv_iload hx hb dX7_meeting_26 (lv_at hl 6 rfl) ?_
          refine va_calli (va_runS (As := [.int (zI (oan))]) (rest := []) ⟨hx, hb, hml, hown, hts⟩ (c_X7_isNoAngle l (oan) (by omega)) (va_cwS 1 hts gX7_meeting_X7_isNoAngle rfl rfl rfl (by decide +kernel) ⟨Nat.le_of_ble_eq_true rfl, Nat.le_of_ble_eq_true rfl⟩) ⟨fun _ _ _ _ h => h, fun _ _ _ => ⟨rfl, trivial⟩⟩ rfl rfl hl.1 rfl (lv_room (Nat.le_of_ble_eq_true rfl)) dX7_meeting_28 ⟨(show 0 + 1 + 1 + 0 + 0 ≤ 3 by omega), (show 0 + 6 + 6 + 0 + 0 ≤ 18 by omega)⟩) hS (fun _ _ h => h.elim) (fun _ h => h.elim) (fun rv28 u9 t9 H locs ht hvm hw hB hz hk hS1 => ?_)
          have hP := hP.kept (fun k x hk9 => hk x.1 ((hP k x hk9).lt) (fun h => h))
          have hk0 : ∀ x : Nat, x < s.heap.size → H[x]? = s.heap[x]? := fun x h9 => (hk x (Nat.lt_of_lt_of_le h9 hS.1) (fun h => h)).trans (hk0 x h9)
          have hS := hS1
          rcases hw with ⟨rfl, bd28⟩ | ⟨rfl, bd28⟩
          · skip
            refine z_if_eq (tgt := 44) hx hb dX7_meeting_31 (by decide) (by decide) (fun cd31 => absurd cd31 (by decide)) (fun _ => ?_)
            obtain ⟨sa9, hsa9⟩ := hstr (137, "two cranes meet, angles are 0 to 23") (by decide)
            exact vx_throwS (names := ["java/lang/RuntimeException", "java/lang/Exception"]) (sa := sa9) hx hb hlT hown (by decide +kernel) (by decide +kernel) (hts (.classLink RX7 50 "java/lang/IllegalArgumentException") (by decide +kernel)) (hts (.initialized "java/lang/IllegalArgumentException") (by decide +kernel)) hsa9 (vx_hat (fun w h => hts w (vt54_X7_meeting w h)) vf54 hnest.2.2.1.bad) vg54 hU0 hN0 hS (by rw [hml]; exact hl.1) dX7_meeting_34 dX7_meeting_37 dX7_meeting_38 dX7_meeting_40 dX7_meeting_43 (fun x h => (hexc x h).elim) (Nat.le_of_ble_eq_true rfl) (Nat.le_of_ble_eq_true rfl) (show 0 + 1 + 1 + 0 + 0 + 1 ≤ 3 by omega) (show 0 + 6 + 6 + 0 + 0 + 6 ≤ 18 by omega) hlocks (fun t9 hvm9 hz9 hk9 => ⟨(), trivial, okE_A, Nat.le_trans hS.1 hz9, fun x h9 _ => (hk9 x (Nat.lt_of_lt_of_le h9 hS.1)).trans (hk0 x h9)⟩) hS.2.2 (by omega) (by omega)
          · skip
            refine z_if_eq (tgt := 44) hx hb dX7_meeting_31 (by decide) (by decide) (fun _ => ?_) (fun cd31 => absurd cd31 (by decide))
            refine lv_aload_n hx hb dX7_meeting_44 rfl (lv_at hl 2 rfl) ?_
            refine va_get (D := D) (ci := 9) (v := .int (zI (σ 0 7))) (C := RX7) (T := TX7) (N := 9) hx hb hts inX7 hown hK hP 0 wg_S rfl 7 (by decide) k139 (fun _ h9 => h9) rfl dX7_meeting_45 ?_
            refine lv_bipush (v := zI 6) hx hb dX7_meeting_48 (by decide +kernel) ?_
            refine z_icmp_lt (tgt := 63) hx hb dX7_meeting_50 (by decide) (by omega) (by omega) (fun cd50 => ?_) (fun cd50 => ?_)
            · skip
              obtain ⟨n, hn⟩ : ∃ n : Nat, σ 0 7 = (n : Int) := ⟨(σ 0 7).toNat, by omega⟩
              refine lv_aload_n hx hb dX7_meeting_63 rfl (lv_at hl 2 rfl) ?_
              refine va_get (D := D) (ci := 9) (v := .ref (a 13)) (C := RX7) (T := TX7) (N := 9) hx hb hts inX7 hown hK hP 0 wg_S rfl 3 (by decide) k34 (fun _ h9 => h9) rfl dX7_meeting_64 ?_
              refine lv_aload_n hx hb dX7_meeting_67 rfl (lv_at hl 2 rfl) ?_
              refine va_get (D := D) (ci := 9) (v := .int (zI (σ 0 7))) (C := RX7) (T := TX7) (N := 9) hx hb hts inX7 hown hK hP 0 wg_S rfl 7 (by decide) k139 (fun _ h9 => h9) rfl dX7_meeting_68 ?_
              refine z_aald (i := n) hx hb hK hP 13 2 wg_AM rfl (by omega) (by omega) (by omega) dX7_meeting_71 ?_
              refine lv_astore (lv' := [(7, .ref (a (14 + n))), (6, .ref (a (3 + ic9))), (5, .ref (a (3 + ic2))), (0, .ref (a 0)), (1, .int (zI (n0))), (2, .int (zI (an))), (3, .int (zI (n2))), (4, .int (zI (oan)))]) hx hb dX7_meeting_72 hl (by decide) rfl (fun ls hl => ?_)
              refine lv_aload_n hx hb dX7_meeting_74 rfl (lv_at hl 3 rfl) ?_
              refine lv_dup hx hb dX7_meeting_75 rfl ?_
              refine va_get (D := D) (ci := 9) (v := .int (zI (σ 0 7))) (C := RX7) (T := TX7) (N := 9) hx hb hts inX7 hown hK hP 0 wg_S rfl 7 (by decide) k139 (fun _ h9 => h9) rfl dX7_meeting_76 ?_
              refine lv_iconst (v := zI 1) hx hb dX7_meeting_79 rfl ?_
              refine z_iadd hx hb dX7_meeting_80 ?_
              refine w_put (ty := .int) (z := (σ 0 7) + 1) (C := RX7) (T := TX7) (N := 9) hx hb hts inX7 tyX7 tyX7_ok nmX7 hown hK hP hD hS 0 (by omega) (ci := 9) (fs := fS a) (fun _ => wc_S) rfl 7 (by decide) k139 (fun _ h9 => h9) rfl (by decide +kernel) rfl rfl (Nat.le_of_ble_eq_true rfl) rfl dX7_meeting_81 (fun H locs hP hD hS => ?_)
              obtain ⟨σp81, eσp81⟩ : ∃ z, z = up2 σ 0 7 ((σ 0 7) + 1) := ⟨_, rfl⟩
              rw [← eσp81] at hP hD
              refine lv_aload hx hb dX7_meeting_84 (lv_at hl 0 rfl) ?_
              refine lv_aload hx hb dX7_meeting_86 (lv_at hl 2 rfl) ?_
              refine va_get (D := D) (ci := 2) (v := .int (zI (σ (3 + ic2) 0))) (C := RX0) (T := TX0) (N := 12) hx hb hts inX0 hown hK hP (3 + ic2) (wg_C (i := ic2) (by first | assumption | omega)) rfl 0 (by decide) k83 (fun _ h9 => h9) (by show some (Value.int (zI (σp81 (3 + ic2) 0))) = some (Value.int (zI (σ (3 + ic2) 0))); rw [eσp81, g_ne (by omega)]) dX7_meeting_88 ?_
              refine w_put (ty := .int) (z := σ (3 + ic2) 0) (C := RX2) (T := TX2) (N := 4) hx hb hts inX2 tyX2 tyX2_ok nmX2 hown hK hP hD hS (14 + n) (by omega) (ci := 4) (fs := fM) (fun _ => wc_M (i := n) (by first | assumption | omega)) rfl 0 (by decide) k144 (fun _ h9 => h9) rfl (by decide +kernel) rfl rfl (Nat.le_of_ble_eq_true rfl) rfl dX7_meeting_91 (fun H locs hP hD hS => ?_)
              obtain ⟨σp91, eσp91⟩ : ∃ z, z = up2 σp81 (14 + n) 0 (σ (3 + ic2) 0) := ⟨_, rfl⟩
              rw [← eσp91] at hP hD
              refine lv_aload hx hb dX7_meeting_94 (lv_at hl 0 rfl) ?_
              refine lv_iload_n hx hb dX7_meeting_96 rfl (lv_at hl 5 rfl) ?_
              refine w_put (ty := .int) (z := an) (C := RX2) (T := TX2) (N := 4) hx hb hts inX2 tyX2 tyX2_ok nmX2 hown hK hP hD hS (14 + n) (by omega) (ci := 4) (fs := fM) (fun _ => wc_M (i := n) (by first | assumption | omega)) rfl 1 (by decide) k147 (fun _ h9 => h9) rfl (by decide +kernel) rfl rfl (Nat.le_of_ble_eq_true rfl) rfl dX7_meeting_97 (fun H locs hP hD hS => ?_)
              obtain ⟨σp97, eσp97⟩ : ∃ z, z = up2 σp91 (14 + n) 1 (an) := ⟨_, rfl⟩
              rw [← eσp97] at hP hD
              refine lv_aload hx hb dX7_meeting_100 (lv_at hl 0 rfl) ?_
              refine lv_aload hx hb dX7_meeting_102 (lv_at hl 1 rfl) ?_
              refine va_get (D := D) (ci := 2) (v := .int (zI (σ (3 + ic9) 0))) (C := RX0) (T := TX0) (N := 12) hx hb hts inX0 hown hK hP (3 + ic9) (wg_C (i := ic9) (by first | assumption | omega)) rfl 0 (by decide) k83 (fun _ h9 => h9) (by show some (Value.int (zI (σp97 (3 + ic9) 0))) = some (Value.int (zI (σ (3 + ic9) 0))); rw [eσp97, g_ne (by omega), eσp91, g_ne (by omega), eσp81, g_ne (by omega)]) dX7_meeting_104 ?_
              refine w_put (ty := .int) (z := σ (3 + ic9) 0) (C := RX2) (T := TX2) (N := 4) hx hb hts inX2 tyX2 tyX2_ok nmX2 hown hK hP hD hS (14 + n) (by omega) (ci := 4) (fs := fM) (fun _ => wc_M (i := n) (by first | assumption | omega)) rfl 2 (by decide) k150 (fun _ h9 => h9) rfl (by decide +kernel) rfl rfl (Nat.le_of_ble_eq_true rfl) rfl dX7_meeting_107 (fun H locs hP hD hS => ?_)
              obtain ⟨σp107, eσp107⟩ : ∃ z, z = up2 σp97 (14 + n) 2 (σ (3 + ic9) 0) := ⟨_, rfl⟩
              rw [← eσp107] at hP hD
              refine lv_aload hx hb dX7_meeting_110 (lv_at hl 0 rfl) ?_
              refine lv_iload hx hb dX7_meeting_112 (lv_at hl 7 rfl) ?_
              refine w_put (ty := .int) (z := oan) (C := RX2) (T := TX2) (N := 4) hx hb hts inX2 tyX2 tyX2_ok nmX2 hown hK hP hD hS (14 + n) (by omega) (ci := 4) (fs := fM) (fun _ => wc_M (i := n) (by first | assumption | omega)) rfl 3 (by decide) k153 (fun _ h9 => h9) rfl (by decide +kernel) rfl rfl (Nat.le_of_ble_eq_true rfl) rfl dX7_meeting_114 (fun H locs hP hD hS => ?_)
              obtain ⟨σp114, eσp114⟩ : ∃ z, z = up2 σp107 (14 + n) 3 (oan) := ⟨_, rfl⟩
              rw [← eσp114] at hP hD
              refine lv_aload_n hx hb dX7_meeting_117 rfl (lv_at hl 3 rfl) ?_
              refine va_get (D := D) (ci := 9) (v := .int (zI ((σ 0 7) + 1))) (C := RX7) (T := TX7) (N := 9) hx hb hts inX7 hown hK hP 0 wg_S rfl 7 (by decide) k139 (fun _ h9 => h9) (by show some (Value.int (zI (σp114 0 7))) = some (Value.int (zI ((σ 0 7) + 1))); rw [eσp114, g_ne (by omega), eσp107, g_ne (by omega), eσp97, g_ne (by omega), eσp91, g_ne (by omega), eσp81, g_eq]) dX7_meeting_118 ?_
              refine vx_ret ?_
              refine W.widen (k := 3) (n := 18) (by omega) (by omega) ?_
              have eR : σp114 = upR (upR σ 0 (upr (σ 0) 7 (σ 0 7 + 1))) (14 + n) (upr (upr (upr (upr (σ (14 + n)) 0 (σ (3 + ic2) 0)) 1 an) 2 (σ (3 + ic9) 0)) 3 oan) := by
                rw [eσp114, eσp107, eσp97, eσp91, eσp81]
                simp only [up2, upR_s, upR_R, upR_n (show 14 + n ≠ 0 by omega)]
              have h15 : σp114 1 5 = σ 1 5 := by rw [eR, upR_n (by omega), upR_n (by omega)]
              have hO1 : okA t0 (σ 1 5) q σp114 := by
                rw [eR]
                refine okA_M (okA_S hO ?_ rfl) (by omega) ?_
                · show 0 ≤ σ 0 5 ∧ σ 0 5 ≤ 3 ∧ 0 ≤ σ 0 6 ∧ σ 0 6 ≤ 6 ∧ 0 ≤ σ 0 7 + 1 ∧ σ 0 7 + 1 ≤ 6 ∧ 0 ≤ σ 0 8 ∧ σ 0 8 ≤ t0 ∧ 0 ≤ t0 ∧ t0 ≤ 1000000
                  omega
                · show 0 ≤ σ (3 + ic2) 0 ∧ σ (3 + ic2) 0 ≤ 24 ∧ 0 ≤ an ∧ an ≤ 24 ∧ 0 ≤ σ (3 + ic9) 0 ∧ σ (3 + ic9) 0 ≤ 24 ∧ 0 ≤ oan ∧ oan ≤ 24
                  omega
              have hO2 : okA (t0 + 1) (σp114 1 5) q σp114 := by
                rw [h15]
                exact okA_mono hO1 (by omega) (by omega)
              have hE2 : Ev σ σp114 := by rw [eR]; exact Ev.tr (Ev_S (r := upr (σ 0) 7 (σ 0 7 + 1)) (Int.le_refl _) (Int.le_refl _)) (Ev_O (by omega))
              exact W.iret (v := zI ((σ 0 7) + 1)) hx hb hr (fun t9 ht hW => ⟨⟨_, (q, σp114), rfl, ⟨_, rfl, ⟨hO2, hE2⟩⟩, Wd_mk (wP_left hP) hE0 hS ht hW⟩, hS.F ht⟩) hS.2.2 dX7_meeting_121
            · skip
              obtain ⟨sa9, hsa9⟩ := hstr (142, "there are 6 meetings") (by decide)
              exact vx_throwS (names := ["java/lang/RuntimeException", "java/lang/Exception"]) (sa := sa9) hx hb hlT hown (by decide +kernel) (by decide +kernel) (hts (.classLink RX7 61 "java/lang/IllegalStateException") (by decide +kernel)) (hts (.initialized "java/lang/IllegalStateException") (by decide +kernel)) hsa9 (vx_hat (fun w h => hts w (vt65_X7_meeting w h)) vf65 hnest.2.2.2.1.bad) vg65 hU0 hN0 hS (by rw [hml]; exact hl.1) dX7_meeting_53 dX7_meeting_56 dX7_meeting_57 dX7_meeting_59 dX7_meeting_62 (fun x h => (hexc x h).elim) (Nat.le_of_ble_eq_true rfl) (Nat.le_of_ble_eq_true rfl) (show 0 + 1 + 1 + 0 + 0 + 1 ≤ 3 by omega) (show 0 + 6 + 6 + 0 + 0 + 6 ≤ 18 by omega) hlocks (fun t9 hvm9 hz9 hk9 => ⟨(), trivial, okE_S, Nat.le_trans hS.1 hz9, fun x h9 _ => (hk9 x (Nat.lt_of_lt_of_le h9 hS.1)).trans (hk0 x h9)⟩) hS.2.2 (by omega) (by omega)

set_option maxRecDepth 100000 in
theorem vt65_X7_lock : ∀ w ∈ (vx_atS RX7 65 "java/lang/IllegalStateException" ["java/lang/RuntimeException", "java/lang/Exception"]).filter goodWord, w ∈ wsX7_lock := by decide +kernel
set_option maxHeartbeats 4000000 in
set_option maxRecDepth 100000 in
/-- X7_lock -/
theorem c_X7_lock (l : Launch) (hlT : l.stackTraces = false) (D : va_G) (cy : Nat → ClassId) (a q : Nat → Nat) (σ : Nat → Nat → Int) (sz : Nat) (n0 : Int) (hn0 : rg n0) (is : Int) (his : is = 0 ∨ is = 1) (t0 : Int) (hO : okA t0 (σ 1 5) q σ) (ht9 : t0 < 1000000) : vx_Met l yX7_lock wsX7_lock ({ frames := 10, cells := 2, slots := 12, locals := 400 }) (va_Pc [.ref (a 0), .int (zI (n0)), .int (zI (is))] (fun U => U.heap.size = sz ∧ Wd D cy a q σ U)) (va_Qi (fun (r : Int32) (u : ((Nat → Nat) × (Nat → Nat → Int))) => ∃ z : Int, r = zI z ∧ (okA (t0 + 1) (u.2 1 5) u.1 u.2 ∧ Ev σ u.2)) (fun (u : ((Nat → Nat) × (Nat → Nat → Int))) t => Wd D cy a u.1 u.2 t) (wF a sz)) (vx_X (fun (_ : Unit) => True) (fun E _ _ => okE E) (fun _ => False)) 2 12 (wF a sz) := by
  refine vx_ofW (cc := cX7_lock) (maxL := 5) (ret := (some .boolean)) (by decide) rfl ?_
  intro p e s m args below meth c s₁ B hml hexc hpc0
  obtain ⟨rfl, hsz, hW0⟩ := hpc0
  have hx := B.exec
  have hb := B.bytes
  have hr := B.returns
  have hts := atoms_spec (ws := wsX7_lock) B.pre
  have hown : s.vm.findClass RX7 = some m.cls := findClass_of_methodNamed B.named
  have hlocks := B.notSynchronized
  subst hsz
  obtain ⟨hP00, hE0⟩ := id hW0
  obtain ⟨hK, hinj, hU0, hN0, hstr, hnest⟩ := id hE0
  have hP : va_P D vwCl (wld cy a q σ ++ []) s.heap := by rw [List.append_nil]; exact hP00
  have hD : va_D (wF a s.heap.size) (wld cy a q σ ++ []) := wD_of hinj
  have hA : ∀ x : Nat, s.heap.size ≤ x → wF a s.heap.size x := fun _ h => Or.inr h
  have hS : va_S (wF a s.heap.size) s.heap s.heap [] := va_S.rf
  have hk0 : ∀ x : Nat, x < s.heap.size → s.heap[x]? = s.heap[x]? := fun _ _ => rfl
  have hl := lv_entry ([.ref (a 0), .int (zI (n0)), .int (zI (is))]) (n := 5) (Nat.le_of_ble_eq_true rfl)
  rw [lg_entry_eq]
  generalize (lg_sl ([.ref (a 0), .int (zI (n0)), .int (zI (is))]) ++ List.replicate (5 - (lg_sl ([.ref (a 0), .int (zI (n0)), .int (zI (is))])).length) Slot.unset).toArray = ls at hl ⊢
  have hl : lv_has ls 5 [(0, .ref (a 0)), (1, .int (zI (n0))), (2, .int (zI (is)))] := hl
  have k10 := hts (.fieldLink RX7 10 "Slewfree" "weather" "LSlewfree$Weather;") (by decide +kernel)
  have k42 := hts (.fieldLink RX7 42 "Slewfree" "log" "LSlewfree$Log;") (by decide +kernel)
  have k79 := hts (.fieldLink RX7 79 "Slewfree$Crane" "isLocked" "Z") (by decide +kernel)
  have k83 := hts (.fieldLink RX7 83 "Slewfree$Crane" "number" "I") (by decide +kernel)
  have k104 := hts (.fieldLink RX7 104 "Slewfree$Weather" "wind" "I") (by decide +kernel)
  have inX0 : ∀ w ∈ u_ws RX0 TX0 12, w ∈ wsX7_lock := by decide +kernel
  have inX5 : ∀ w ∈ u_ws RX5 TX5 7, w ∈ wsX7_lock := by decide +kernel
  have inX7 : ∀ w ∈ u_ws RX7 TX7 9, w ∈ wsX7_lock := by decide +kernel
  obtain ⟨oS, oW, oC, oZ, oM, oL, oP, oQ, oH⟩ := id hO
  unfold okS at oS; unfold okW at oW; unfold okL at oL
  refine lv_aload_n hx hb dX7_lock_0 rfl (lv_at hl 0 rfl) ?_
  refine lv_iload_n hx hb dX7_lock_1 rfl (lv_at hl 1 rfl) ?_
  refine vx_callr (vx_runV (As := [.int (zI (n0))]) (rest := []) ⟨hx, hb, hml, hown, hts⟩ (c_X7_craneAt l hlT D cy a q σ s.heap.size (n0) (by omega) (by first | assumption | omega)) (cwV 1 hts gX7_lock_X7_craneAt rfl rfl rfl (by decide +kernel) ⟨Nat.le_of_ble_eq_true rfl, Nat.le_of_ble_eq_true rfl⟩) ⟨Wd_blind, va_recv hK hP (ci := 9) (q0 := 0) rfl wg_S, fun U hU hW => ⟨rfl, by rw [hU], Wd_mk (wP_left hP) hE0 hS hU hW⟩⟩ rfl rfl hl.1 rfl (lv_room (Nat.le_of_ble_eq_true rfl)) dX7_lock_2 ⟨(show 0 + 1 ≤ 2 by omega), (show 0 + 6 ≤ 12 by omega)⟩) hS (fun _ _ h => h.elim) (fun _ h => wF_mono hS.1 _ h) (fun _ _ h => h.elim) (fun E9 ce9 q9 u9 t9 H locs ht hvm hpx hE hz hk hS1 hce hcv hcl => ?_) (fun u9 ra9 t9 H locs ht hvm hw hB hz hk hS1 => ?_)
  · skip
    refine vx_widen (k := 2) (n := 12) (by omega) (by omega) ?_
    exact vx_out (fun x h => (hexc x h).elim) hlocks hce hcv hcl (fun t9 ht9 hvm9 => ⟨(), trivial, hE, vF_R ht9 (Nat.le_trans hS.1 hz) (fun x h9 => (hk x (Nat.lt_of_lt_of_le h9 hS.1) (fun h => h)).trans (hk0 x h9))⟩) hS1.2.2 (Nat.le_refl _) (Nat.le_refl _)
  · skip
    have hP := hP.kept (fun k x hk9 => hk x.1 ((hP k x hk9).lt) (fun h => h))
    have hk0 : ∀ x : Nat, x < s.heap.size → H[x]? = s.heap[x]? := fun x h9 => (hk x (Nat.lt_of_lt_of_le h9 hS.1) (fun h => h)).trans (hk0 x h9)
    have hS := hS1
    subst hB
    obtain ⟨ic2, eic2⟩ : ∃ z : Nat, z = u9 := ⟨u9, rfl⟩
    rw [← eic2] at hw ⊢
    have hi2 := hw
    have oC_a := oC ic2 (by omega); unfold okC at oC_a
    refine lv_astore_n (lv' := [(3, .ref (a (3 + ic2))), (0, .ref (a 0)), (1, .int (zI (n0))), (2, .int (zI (is)))]) hx hb dX7_lock_5 rfl hl (by decide) rfl (fun ls hl => ?_)
    refine lv_iload_n hx hb dX7_lock_6 rfl (lv_at hl 3 rfl) ?_
    refine z_if_eq (tgt := 30) hx hb dX7_lock_7 (by decide) (by omega) (fun cd7 => ?_) (fun cd7 => ?_)
    · skip
      refine lv_aload_n hx hb dX7_lock_30 rfl (lv_at hl 0 rfl) ?_
      refine va_get (D := D) (ci := 2) (v := .int (zI (σ (3 + ic2) 5))) (C := RX0) (T := TX0) (N := 12) hx hb hts inX0 hown hK hP (3 + ic2) (wg_C (i := ic2) (by first | assumption | omega)) rfl 5 (by decide) k79 (fun _ h9 => h9) rfl dX7_lock_31 ?_
      refine lv_istore (lv' := [(4, .int (zI (σ (3 + ic2) 5))), (3, .ref (a (3 + ic2))), (0, .ref (a 0)), (1, .int (zI (n0))), (2, .int (zI (is)))]) hx hb dX7_lock_34 hl (by decide) rfl (fun ls hl => ?_)
      refine lv_iload_n hx hb dX7_lock_36 rfl (lv_at hl 4 rfl) ?_
      refine lv_iload hx hb dX7_lock_37 (lv_at hl 0 rfl) ?_
      refine z_icmp_eq (tgt := 77) hx hb dX7_lock_39 (by decide) (by omega) (by omega) (fun cd39 => ?_) (fun cd39 => ?_)
      · skip
        refine lv_iload hx hb dX7_lock_77 (lv_at hl 0 rfl) ?_
        refine vx_ret ?_
        refine W.widen (k := 2) (n := 12) (by omega) (by omega) ?_
        exact W.zret (v := zI (σ (3 + ic2) 5)) (ty := .boolean) hx hb hr (by rcases oC_a.2.2.2.1 with h | h <;> rw [h] <;> rfl) (fun t9 ht hW => ⟨⟨_, (q, σ), rfl, ⟨_, rfl, ⟨okA_mono hO (by omega) (by omega), Ev.rf σ⟩⟩, Wd_mk (wP_left hP) hE0 hS ht hW⟩, hS.F ht⟩) hS.2.2 dX7_lock_79
      · skip
        refine lv_aload_n hx hb dX7_lock_42 rfl (lv_at hl 1 rfl) ?_
        refine lv_iload_n hx hb dX7_lock_43 rfl (lv_at hl 4 rfl) ?_
        refine w_put (ty := .boolean) (z := is) (C := RX0) (T := TX0) (N := 12) hx hb hts inX0 tyX0 tyX0_ok nmX0 hown hK hP hD hS (3 + ic2) (by omega) (ci := 2) (fs := fC) (fun _ => wc_C (i := ic2) (by first | assumption | omega)) rfl 5 (by decide) k79 (fun _ h9 => h9) rfl (by decide +kernel) (by rcases his with h | h <;> rw [h] <;> rfl) (by rcases his with h | h <;> rw [h] <;> rfl) (Nat.le_of_ble_eq_true rfl) rfl dX7_lock_44 (fun H locs hP hD hS => ?_)
        obtain ⟨σp44, eσp44⟩ : ∃ z, z = up2 σ (3 + ic2) 5 (is) := ⟨_, rfl⟩
        rw [← eσp44] at hP hD
        have hO1 : okA t0 (σ 1 5) q σp44 := by
          rw [eσp44]
          refine okA_C hO (by omega) ?_
          show σ (3 + ic2) 0 = ic2 ∧ 0 ≤ σ (3 + ic2) 3 ∧ σ (3 + ic2) 3 ≤ 23 ∧ ((is : Int) = 0 ∨ (is : Int) = 1) ∧ (0 ≤ σ (3 + ic2) 9 ∧ σ (3 + ic2) 9 ≤ σ (3 + ic2) 8 ∧ σ (3 + ic2) 8 ≤ σ (3 + ic2) 7 ∧ σ (3 + ic2) 7 ≤ σ (3 + ic2) 6 ∧ σ (3 + ic2) 6 ≤ 99) ∧ 0 ≤ σ (3 + ic2) 10 ∧ σ (3 + ic2) 10 ≤ 1000 ∧ 0 ≤ σ (3 + ic2) 11 ∧ σ (3 + ic2) 11 ≤ t0 ∧ ((ic2 : Int) < σ 0 5 → 10 ≤ σ (3 + ic2) 1 ∧ σ (3 + ic2) 1 ≤ 40 ∧ (σ (3 + ic2) 2 = 2 ∨ σ (3 + ic2) 2 = 4) ∧ 10 ≤ σ (3 + ic2) 4 ∧ σ (3 + ic2) 4 ≤ σ (3 + ic2) 1 ∧ (12 < σ 1 5 → (is : Int) = 0))
          omega
        have hE1 : Ev σ σp44 := by rw [eσp44]; exact Ev_C (by omega) (Int.le_refl _)
        refine lv_aload_n hx hb dX7_lock_47 rfl (lv_at hl 2 rfl) ?_
        refine va_get (D := D) (ci := 9) (v := .ref (a 20)) (C := RX7) (T := TX7) (N := 9) hx hb hts inX7 hown hK hP 0 wg_S rfl 4 (by decide) k42 (fun _ h9 => h9) rfl dX7_lock_48 ?_
        refine lv_iload_n hx hb dX7_lock_51 rfl (lv_at hl 4 rfl) ?_
        refine z_if_eq (tgt := 59) hx hb dX7_lock_52 (by decide) (by omega) (fun cd52 => ?_) (fun cd52 => ?_)
        · skip
          refine lv_iconst (v := zI 4) hx hb dX7_lock_59 rfl ?_
          refine lv_aload_n hx hb dX7_lock_60 rfl (lv_at hl 1 rfl) ?_
          refine va_get (D := D) (ci := 2) (v := .int (zI (σ (3 + ic2) 0))) (C := RX0) (T := TX0) (N := 12) hx hb hts inX0 hown hK hP (3 + ic2) (wg_C (i := ic2) (by first | assumption | omega)) rfl 0 (by decide) k83 (fun _ h9 => h9) (by show some (Value.int (zI (σp44 (3 + ic2) 0))) = some (Value.int (zI (σ (3 + ic2) 0))); rw [eσp44, g_fe (by decide)]) dX7_lock_61 ?_
          refine lv_aload_n hx hb dX7_lock_64 rfl (lv_at hl 2 rfl) ?_
          refine va_get (D := D) (ci := 9) (v := .ref (a 1)) (C := RX7) (T := TX7) (N := 9) hx hb hts inX7 hown hK hP 0 wg_S rfl 0 (by decide) k10 (fun _ h9 => h9) rfl dX7_lock_65 ?_
          refine va_get (D := D) (ci := 7) (v := .int (zI (σ 1 5))) (C := RX5) (T := TX5) (N := 7) hx hb hts inX5 hown hK hP 1 wg_W rfl 5 (by decide) k104 (fun _ h9 => h9) (by show some (Value.int (zI (σp44 1 5))) = some (Value.int (zI (σ 1 5))); rw [eσp44, g_ne (by omega)]) dX7_lock_68 ?_
          refine lv_iconst (v := zI 0) hx hb dX7_lock_71 rfl ?_
          refine lv_iconst (v := zI 0) hx hb dX7_lock_72 rfl ?_
          refine lv_iconst (v := zI (-1)) hx hb dX7_lock_73 rfl ?_
          refine va_callv (va_runV (As := [.int (zI (4)), .int (zI (σ (3 + ic2) 0)), .int (zI (σ 1 5)), .int (zI (0)), .int (zI (0)), .int (zI (-1))]) (rest := []) ⟨hx, hb, hml, hown, hts⟩ (c_X1_write l D cy a q σp44 H.size (4) (by omega) (σ (3 + ic2) 0) (by omega) (σ 1 5) (by omega) (0) (by omega) (0) (by omega) (-1) (by omega) (by first | assumption | omega) _ _ hO1) (cwV 6 hts gX7_lock_X1_write rfl rfl rfl (by decide +kernel) ⟨Nat.le_of_ble_eq_true rfl, Nat.le_of_ble_eq_true rfl⟩) ⟨Wd_blind, va_recv hK hP (ci := 3) (q0 := 20) rfl wg_L, fun U hU hW => ⟨rfl, by rw [hU], Wd_mk (wP_left hP) hE0 hS hU hW⟩⟩ rfl rfl hl.1 rfl (lv_room (Nat.le_of_ble_eq_true rfl)) dX7_lock_74 ⟨(show 0 + 1 + 0 ≤ 2 by omega), (show 0 + 6 + 0 ≤ 12 by omega)⟩) hS (fun _ _ h => wF_mono hS.1 _ h) (fun _ h => wF_mono hS.1 _ h) (fun u9 t9 H locs ht hvm hw hB hz hk hS1 => ?_)
          obtain ⟨qc74, σc74⟩ := u9
          have hB1 : va_P D vwCl (wld cy a qc74 σc74) t9.heap := hB.1
          rw [ht] at hB1
          obtain ⟨hP, hD⟩ := wd_join hP hD hk hB1
          try dsimp only at hw
          have hS := hS1
          have hw74 := hw
          obtain ⟨hq9, hO3, hWr⟩ := hw74
          obtain rfl : q = qc74 := hq9.symm
          have hO2 : okA (t0 + 1) (σc74 1 5) q σc74 := by
            rw [show σc74 1 5 = σ 1 5 by rw [hWr.1 1 (by omega), eσp44, up2_n (by omega)]]
            exact okA_mono hO3 (by omega) (by omega)
          have hE2 : Ev σ σc74 := hE1.tr hWr.ev
          refine lv_iload hx hb dX7_lock_77 (lv_at hl 0 rfl) ?_
          refine vx_ret ?_
          refine W.widen (k := 2) (n := 12) (by omega) (by omega) ?_
          exact W.zret (v := zI (σ (3 + ic2) 5)) (ty := .boolean) hx hb hr (by rcases oC_a.2.2.2.1 with h | h <;> rw [h] <;> rfl) (fun t9 ht hW => ⟨⟨_, (q, σc74), rfl, ⟨_, rfl, ⟨hO2, hE2⟩⟩, Wd_mk (wP_left hP) hE0 hS ht hW⟩, hS.F ht⟩) hS.2.2 dX7_lock_79
        · skip
          refine lv_iconst (v := zI 3) hx hb dX7_lock_55 rfl ?_
          refine lv_goto (tgt := 60) hx hb dX7_lock_56 (by decide) ?_
          refine lv_aload_n hx hb dX7_lock_60 rfl (lv_at hl 1 rfl) ?_
          refine va_get (D := D) (ci := 2) (v := .int (zI (σ (3 + ic2) 0))) (C := RX0) (T := TX0) (N := 12) hx hb hts inX0 hown hK hP (3 + ic2) (wg_C (i := ic2) (by first | assumption | omega)) rfl 0 (by decide) k83 (fun _ h9 => h9) (by show some (Value.int (zI (σp44 (3 + ic2) 0))) = some (Value.int (zI (σ (3 + ic2) 0))); rw [eσp44, g_fe (by decide)]) dX7_lock_61 ?_
          refine lv_aload_n hx hb dX7_lock_64 rfl (lv_at hl 2 rfl) ?_
          refine va_get (D := D) (ci := 9) (v := .ref (a 1)) (C := RX7) (T := TX7) (N := 9) hx hb hts inX7 hown hK hP 0 wg_S rfl 0 (by decide) k10 (fun _ h9 => h9) rfl dX7_lock_65 ?_
          refine va_get (D := D) (ci := 7) (v := .int (zI (σ 1 5))) (C := RX5) (T := TX5) (N := 7) hx hb hts inX5 hown hK hP 1 wg_W rfl 5 (by decide) k104 (fun _ h9 => h9) (by show some (Value.int (zI (σp44 1 5))) = some (Value.int (zI (σ 1 5))); rw [eσp44, g_ne (by omega)]) dX7_lock_68 ?_
          refine lv_iconst (v := zI 0) hx hb dX7_lock_71 rfl ?_
          refine lv_iconst (v := zI 0) hx hb dX7_lock_72 rfl ?_
          refine lv_iconst (v := zI (-1)) hx hb dX7_lock_73 rfl ?_
          refine va_callv (va_runV (As := [.int (zI (3)), .int (zI (σ (3 + ic2) 0)), .int (zI (σ 1 5)), .int (zI (0)), .int (zI (0)), .int (zI (-1))]) (rest := []) ⟨hx, hb, hml, hown, hts⟩ (c_X1_write l D cy a q σp44 H.size (3) (by omega) (σ (3 + ic2) 0) (by omega) (σ 1 5) (by omega) (0) (by omega) (0) (by omega) (-1) (by omega) (by first | assumption | omega) _ _ hO1) (cwV 6 hts gX7_lock_X1_write rfl rfl rfl (by decide +kernel) ⟨Nat.le_of_ble_eq_true rfl, Nat.le_of_ble_eq_true rfl⟩) ⟨Wd_blind, va_recv hK hP (ci := 3) (q0 := 20) rfl wg_L, fun U hU hW => ⟨rfl, by rw [hU], Wd_mk (wP_left hP) hE0 hS hU hW⟩⟩ rfl rfl hl.1 rfl (lv_room (Nat.le_of_ble_eq_true rfl)) dX7_lock_74 ⟨(show 0 + 1 + 0 ≤ 2 by omega), (show 0 + 6 + 0 ≤ 12 by omega)⟩) hS (fun _ _ h => wF_mono hS.1 _ h) (fun _ h => wF_mono hS.1 _ h) (fun u9 t9 H locs ht hvm hw hB hz hk hS1 => ?_)
          obtain ⟨qc74, σc74⟩ := u9
          have hB1 : va_P D vwCl (wld cy a qc74 σc74) t9.heap := hB.1
          rw [ht] at hB1
          obtain ⟨hP, hD⟩ := wd_join hP hD hk hB1
          try dsimp only at hw
          have hS := hS1
          have hw74 := hw
          obtain ⟨hq9, hO3, hWr⟩ := hw74
          obtain rfl : q = qc74 := hq9.symm
          have hO2 : okA (t0 + 1) (σc74 1 5) q σc74 := by
            rw [show σc74 1 5 = σ 1 5 by rw [hWr.1 1 (by omega), eσp44, up2_n (by omega)]]
            exact okA_mono hO3 (by omega) (by omega)
          have hE2 : Ev σ σc74 := hE1.tr hWr.ev
          refine lv_iload hx hb dX7_lock_77 (lv_at hl 0 rfl) ?_
          refine vx_ret ?_
          refine W.widen (k := 2) (n := 12) (by omega) (by omega) ?_
          exact W.zret (v := zI (σ (3 + ic2) 5)) (ty := .boolean) hx hb hr (by rcases oC_a.2.2.2.1 with h | h <;> rw [h] <;> rfl) (fun t9 ht hW => ⟨⟨_, (q, σc74), rfl, ⟨_, rfl, ⟨hO2, hE2⟩⟩, Wd_mk (wP_left hP) hE0 hS ht hW⟩, hS.F ht⟩) hS.2.2 dX7_lock_79
    · skip
      refine lv_aload_n hx hb dX7_lock_10 rfl (lv_at hl 1 rfl) ?_
      refine va_get (D := D) (ci := 9) (v := .ref (a 1)) (C := RX7) (T := TX7) (N := 9) hx hb hts inX7 hown hK hP 0 wg_S rfl 0 (by decide) k10 (fun _ h9 => h9) rfl dX7_lock_11 ?_
      refine va_calli (va_runV (As := []) (rest := []) ⟨hx, hb, hml, hown, hts⟩ (c_X5_isStorm l D cy a q σ H.size (by first | assumption | omega)) (cwV 0 hts gX7_lock_X5_isStorm rfl rfl rfl (by decide +kernel) ⟨Nat.le_of_ble_eq_true rfl, Nat.le_of_ble_eq_true rfl⟩) ⟨Wd_blind, va_recv hK hP (ci := 7) (q0 := 1) rfl wg_W, fun U hU hW => ⟨rfl, by rw [hU], Wd_mk (wP_left hP) hE0 hS hU hW⟩⟩ rfl rfl hl.1 rfl (lv_room (Nat.le_of_ble_eq_true rfl)) dX7_lock_14 ⟨(show 0 + 1 + 0 ≤ 2 by omega), (show 0 + 6 + 0 ≤ 12 by omega)⟩) hS (fun _ _ h => h.elim) (fun _ h => wF_mono hS.1 _ h) (fun rv14 u9 t9 H locs ht hvm hw hB hz hk hS1 => ?_)
      have hP := hP.kept (fun k x hk9 => hk x.1 ((hP k x hk9).lt) (fun h => h))
      have hk0 : ∀ x : Nat, x < s.heap.size → H[x]? = s.heap[x]? := fun x h9 => (hk x (Nat.lt_of_lt_of_le h9 hS.1) (fun h => h)).trans (hk0 x h9)
      have hS := hS1
      rcases hw with ⟨rfl, bd14⟩ | ⟨rfl, bd14⟩
      · skip
        refine z_if_eq (tgt := 30) hx hb dX7_lock_17 (by decide) (by decide) (fun cd17 => absurd cd17 (by decide)) (fun _ => ?_)
        obtain ⟨sa9, hsa9⟩ := hstr (186, "wind is above 12") (by decide)
        exact vx_throwS (names := ["java/lang/RuntimeException", "java/lang/Exception"]) (sa := sa9) hx hb hlT hown (by decide +kernel) (by decide +kernel) (hts (.classLink RX7 61 "java/lang/IllegalStateException") (by decide +kernel)) (hts (.initialized "java/lang/IllegalStateException") (by decide +kernel)) hsa9 (vx_hat (fun w h => hts w (vt65_X7_lock w h)) vf65 hnest.2.2.2.1.bad) vg65 hU0 hN0 hS (by rw [hml]; exact hl.1) dX7_lock_20 dX7_lock_23 dX7_lock_24 dX7_lock_26 dX7_lock_29 (fun x h => (hexc x h).elim) (Nat.le_of_ble_eq_true rfl) (Nat.le_of_ble_eq_true rfl) (show 0 + 1 + 0 + 1 ≤ 2 by omega) (show 0 + 6 + 0 + 6 ≤ 12 by omega) hlocks (fun t9 hvm9 hz9 hk9 => ⟨(), trivial, okE_S, Nat.le_trans hS.1 hz9, fun x h9 _ => (hk9 x (Nat.lt_of_lt_of_le h9 hS.1)).trans (hk0 x h9)⟩) hS.2.2 (by omega) (by omega)
      · skip
        refine z_if_eq (tgt := 30) hx hb dX7_lock_17 (by decide) (by decide) (fun _ => ?_) (fun cd17 => absurd cd17 (by decide))
        refine lv_aload_n hx hb dX7_lock_30 rfl (lv_at hl 0 rfl) ?_
        refine va_get (D := D) (ci := 2) (v := .int (zI (σ (3 + ic2) 5))) (C := RX0) (T := TX0) (N := 12) hx hb hts inX0 hown hK hP (3 + ic2) (wg_C (i := ic2) (by first | assumption | omega)) rfl 5 (by decide) k79 (fun _ h9 => h9) rfl dX7_lock_31 ?_
        refine lv_istore (lv' := [(4, .int (zI (σ (3 + ic2) 5))), (3, .ref (a (3 + ic2))), (0, .ref (a 0)), (1, .int (zI (n0))), (2, .int (zI (is)))]) hx hb dX7_lock_34 hl (by decide) rfl (fun ls hl => ?_)
        refine lv_iload_n hx hb dX7_lock_36 rfl (lv_at hl 4 rfl) ?_
        refine lv_iload hx hb dX7_lock_37 (lv_at hl 0 rfl) ?_
        refine z_icmp_eq (tgt := 77) hx hb dX7_lock_39 (by decide) (by omega) (by omega) (fun cd39 => ?_) (fun cd39 => ?_)
        · skip
          refine lv_iload hx hb dX7_lock_77 (lv_at hl 0 rfl) ?_
          refine vx_ret ?_
          refine W.widen (k := 2) (n := 12) (by omega) (by omega) ?_
          exact W.zret (v := zI (σ (3 + ic2) 5)) (ty := .boolean) hx hb hr (by rcases oC_a.2.2.2.1 with h | h <;> rw [h] <;> rfl) (fun t9 ht hW => ⟨⟨_, (q, σ), rfl, ⟨_, rfl, ⟨okA_mono hO (by omega) (by omega), Ev.rf σ⟩⟩, Wd_mk (wP_left hP) hE0 hS ht hW⟩, hS.F ht⟩) hS.2.2 dX7_lock_79
        · skip
          refine lv_aload_n hx hb dX7_lock_42 rfl (lv_at hl 1 rfl) ?_
          refine lv_iload_n hx hb dX7_lock_43 rfl (lv_at hl 4 rfl) ?_
          refine w_put (ty := .boolean) (z := is) (C := RX0) (T := TX0) (N := 12) hx hb hts inX0 tyX0 tyX0_ok nmX0 hown hK hP hD hS (3 + ic2) (by omega) (ci := 2) (fs := fC) (fun _ => wc_C (i := ic2) (by first | assumption | omega)) rfl 5 (by decide) k79 (fun _ h9 => h9) rfl (by decide +kernel) (by rcases his with h | h <;> rw [h] <;> rfl) (by rcases his with h | h <;> rw [h] <;> rfl) (Nat.le_of_ble_eq_true rfl) rfl dX7_lock_44 (fun H locs hP hD hS => ?_)
          obtain ⟨σp44, eσp44⟩ : ∃ z, z = up2 σ (3 + ic2) 5 (is) := ⟨_, rfl⟩
          rw [← eσp44] at hP hD
          have hO1 : okA t0 (σ 1 5) q σp44 := by
            rw [eσp44]
            refine okA_C hO (by omega) ?_
            show σ (3 + ic2) 0 = ic2 ∧ 0 ≤ σ (3 + ic2) 3 ∧ σ (3 + ic2) 3 ≤ 23 ∧ ((is : Int) = 0 ∨ (is : Int) = 1) ∧ (0 ≤ σ (3 + ic2) 9 ∧ σ (3 + ic2) 9 ≤ σ (3 + ic2) 8 ∧ σ (3 + ic2) 8 ≤ σ (3 + ic2) 7 ∧ σ (3 + ic2) 7 ≤ σ (3 + ic2) 6 ∧ σ (3 + ic2) 6 ≤ 99) ∧ 0 ≤ σ (3 + ic2) 10 ∧ σ (3 + ic2) 10 ≤ 1000 ∧ 0 ≤ σ (3 + ic2) 11 ∧ σ (3 + ic2) 11 ≤ t0 ∧ ((ic2 : Int) < σ 0 5 → 10 ≤ σ (3 + ic2) 1 ∧ σ (3 + ic2) 1 ≤ 40 ∧ (σ (3 + ic2) 2 = 2 ∨ σ (3 + ic2) 2 = 4) ∧ 10 ≤ σ (3 + ic2) 4 ∧ σ (3 + ic2) 4 ≤ σ (3 + ic2) 1 ∧ (12 < σ 1 5 → (is : Int) = 0))
            omega
          have hE1 : Ev σ σp44 := by rw [eσp44]; exact Ev_C (by omega) (Int.le_refl _)
          refine lv_aload_n hx hb dX7_lock_47 rfl (lv_at hl 2 rfl) ?_
          refine va_get (D := D) (ci := 9) (v := .ref (a 20)) (C := RX7) (T := TX7) (N := 9) hx hb hts inX7 hown hK hP 0 wg_S rfl 4 (by decide) k42 (fun _ h9 => h9) rfl dX7_lock_48 ?_
          refine lv_iload_n hx hb dX7_lock_51 rfl (lv_at hl 4 rfl) ?_
          refine z_if_eq (tgt := 59) hx hb dX7_lock_52 (by decide) (by omega) (fun cd52 => ?_) (fun cd52 => ?_)
          · skip
            refine lv_iconst (v := zI 4) hx hb dX7_lock_59 rfl ?_
            refine lv_aload_n hx hb dX7_lock_60 rfl (lv_at hl 1 rfl) ?_
            refine va_get (D := D) (ci := 2) (v := .int (zI (σ (3 + ic2) 0))) (C := RX0) (T := TX0) (N := 12) hx hb hts inX0 hown hK hP (3 + ic2) (wg_C (i := ic2) (by first | assumption | omega)) rfl 0 (by decide) k83 (fun _ h9 => h9) (by show some (Value.int (zI (σp44 (3 + ic2) 0))) = some (Value.int (zI (σ (3 + ic2) 0))); rw [eσp44, g_fe (by decide)]) dX7_lock_61 ?_
            refine lv_aload_n hx hb dX7_lock_64 rfl (lv_at hl 2 rfl) ?_
            refine va_get (D := D) (ci := 9) (v := .ref (a 1)) (C := RX7) (T := TX7) (N := 9) hx hb hts inX7 hown hK hP 0 wg_S rfl 0 (by decide) k10 (fun _ h9 => h9) rfl dX7_lock_65 ?_
            refine va_get (D := D) (ci := 7) (v := .int (zI (σ 1 5))) (C := RX5) (T := TX5) (N := 7) hx hb hts inX5 hown hK hP 1 wg_W rfl 5 (by decide) k104 (fun _ h9 => h9) (by show some (Value.int (zI (σp44 1 5))) = some (Value.int (zI (σ 1 5))); rw [eσp44, g_ne (by omega)]) dX7_lock_68 ?_
            refine lv_iconst (v := zI 0) hx hb dX7_lock_71 rfl ?_
            refine lv_iconst (v := zI 0) hx hb dX7_lock_72 rfl ?_
            refine lv_iconst (v := zI (-1)) hx hb dX7_lock_73 rfl ?_
            refine va_callv (va_runV (As := [.int (zI (4)), .int (zI (σ (3 + ic2) 0)), .int (zI (σ 1 5)), .int (zI (0)), .int (zI (0)), .int (zI (-1))]) (rest := []) ⟨hx, hb, hml, hown, hts⟩ (c_X1_write l D cy a q σp44 H.size (4) (by omega) (σ (3 + ic2) 0) (by omega) (σ 1 5) (by omega) (0) (by omega) (0) (by omega) (-1) (by omega) (by first | assumption | omega) _ _ hO1) (cwV 6 hts gX7_lock_X1_write rfl rfl rfl (by decide +kernel) ⟨Nat.le_of_ble_eq_true rfl, Nat.le_of_ble_eq_true rfl⟩) ⟨Wd_blind, va_recv hK hP (ci := 3) (q0 := 20) rfl wg_L, fun U hU hW => ⟨rfl, by rw [hU], Wd_mk (wP_left hP) hE0 hS hU hW⟩⟩ rfl rfl hl.1 rfl (lv_room (Nat.le_of_ble_eq_true rfl)) dX7_lock_74 ⟨(show 0 + 1 + 0 + 0 ≤ 2 by omega), (show 0 + 6 + 0 + 0 ≤ 12 by omega)⟩) hS (fun _ _ h => wF_mono hS.1 _ h) (fun _ h => wF_mono hS.1 _ h) (fun u9 t9 H locs ht hvm hw hB hz hk hS1 => ?_)
            obtain ⟨qc74, σc74⟩ := u9
            have hB1 : va_P D vwCl (wld cy a qc74 σc74) t9.heap := hB.1
            rw [ht] at hB1
            obtain ⟨hP, hD⟩ := wd_join hP hD hk hB1
            try dsimp only at hw
            have hS := hS1
            have hw74 := hw
            obtain ⟨hq9, hO3, hWr⟩ := hw74
            obtain rfl : q = qc74 := hq9.symm
            have hO2 : okA (t0 + 1) (σc74 1 5) q σc74 := by
              rw [show σc74 1 5 = σ 1 5 by rw [hWr.1 1 (by omega), eσp44, up2_n (by omega)]]
              exact okA_mono hO3 (by omega) (by omega)
            have hE2 : Ev σ σc74 := hE1.tr hWr.ev
            refine lv_iload hx hb dX7_lock_77 (lv_at hl 0 rfl) ?_
            refine vx_ret ?_
            refine W.widen (k := 2) (n := 12) (by omega) (by omega) ?_
            exact W.zret (v := zI (σ (3 + ic2) 5)) (ty := .boolean) hx hb hr (by rcases oC_a.2.2.2.1 with h | h <;> rw [h] <;> rfl) (fun t9 ht hW => ⟨⟨_, (q, σc74), rfl, ⟨_, rfl, ⟨hO2, hE2⟩⟩, Wd_mk (wP_left hP) hE0 hS ht hW⟩, hS.F ht⟩) hS.2.2 dX7_lock_79
          · skip
            refine lv_iconst (v := zI 3) hx hb dX7_lock_55 rfl ?_
            refine lv_goto (tgt := 60) hx hb dX7_lock_56 (by decide) ?_
            refine lv_aload_n hx hb dX7_lock_60 rfl (lv_at hl 1 rfl) ?_
            refine va_get (D := D) (ci := 2) (v := .int (zI (σ (3 + ic2) 0))) (C := RX0) (T := TX0) (N := 12) hx hb hts inX0 hown hK hP (3 + ic2) (wg_C (i := ic2) (by first | assumption | omega)) rfl 0 (by decide) k83 (fun _ h9 => h9) (by show some (Value.int (zI (σp44 (3 + ic2) 0))) = some (Value.int (zI (σ (3 + ic2) 0))); rw [eσp44, g_fe (by decide)]) dX7_lock_61 ?_
            refine lv_aload_n hx hb dX7_lock_64 rfl (lv_at hl 2 rfl) ?_
            refine va_get (D := D) (ci := 9) (v := .ref (a 1)) (C := RX7) (T := TX7) (N := 9) hx hb hts inX7 hown hK hP 0 wg_S rfl 0 (by decide) k10 (fun _ h9 => h9) rfl dX7_lock_65 ?_
            refine va_get (D := D) (ci := 7) (v := .int (zI (σ 1 5))) (C := RX5) (T := TX5) (N := 7) hx hb hts inX5 hown hK hP 1 wg_W rfl 5 (by decide) k104 (fun _ h9 => h9) (by show some (Value.int (zI (σp44 1 5))) = some (Value.int (zI (σ 1 5))); rw [eσp44, g_ne (by omega)]) dX7_lock_68 ?_
            refine lv_iconst (v := zI 0) hx hb dX7_lock_71 rfl ?_
            refine lv_iconst (v := zI 0) hx hb dX7_lock_72 rfl ?_
            refine lv_iconst (v := zI (-1)) hx hb dX7_lock_73 rfl ?_
            refine va_callv (va_runV (As := [.int (zI (3)), .int (zI (σ (3 + ic2) 0)), .int (zI (σ 1 5)), .int (zI (0)), .int (zI (0)), .int (zI (-1))]) (rest := []) ⟨hx, hb, hml, hown, hts⟩ (c_X1_write l D cy a q σp44 H.size (3) (by omega) (σ (3 + ic2) 0) (by omega) (σ 1 5) (by omega) (0) (by omega) (0) (by omega) (-1) (by omega) (by first | assumption | omega) _ _ hO1) (cwV 6 hts gX7_lock_X1_write rfl rfl rfl (by decide +kernel) ⟨Nat.le_of_ble_eq_true rfl, Nat.le_of_ble_eq_true rfl⟩) ⟨Wd_blind, va_recv hK hP (ci := 3) (q0 := 20) rfl wg_L, fun U hU hW => ⟨rfl, by rw [hU], Wd_mk (wP_left hP) hE0 hS hU hW⟩⟩ rfl rfl hl.1 rfl (lv_room (Nat.le_of_ble_eq_true rfl)) dX7_lock_74 ⟨(show 0 + 1 + 0 + 0 ≤ 2 by omega), (show 0 + 6 + 0 + 0 ≤ 12 by omega)⟩) hS (fun _ _ h => wF_mono hS.1 _ h) (fun _ h => wF_mono hS.1 _ h) (fun u9 t9 H locs ht hvm hw hB hz hk hS1 => ?_)
            obtain ⟨qc74, σc74⟩ := u9
            have hB1 : va_P D vwCl (wld cy a qc74 σc74) t9.heap := hB.1
            rw [ht] at hB1
            obtain ⟨hP, hD⟩ := wd_join hP hD hk hB1
            try dsimp only at hw
            have hS := hS1
            have hw74 := hw
            obtain ⟨hq9, hO3, hWr⟩ := hw74
            obtain rfl : q = qc74 := hq9.symm
            have hO2 : okA (t0 + 1) (σc74 1 5) q σc74 := by
              rw [show σc74 1 5 = σ 1 5 by rw [hWr.1 1 (by omega), eσp44, up2_n (by omega)]]
              exact okA_mono hO3 (by omega) (by omega)
            have hE2 : Ev σ σc74 := hE1.tr hWr.ev
            refine lv_iload hx hb dX7_lock_77 (lv_at hl 0 rfl) ?_
            refine vx_ret ?_
            refine W.widen (k := 2) (n := 12) (by omega) (by omega) ?_
            exact W.zret (v := zI (σ (3 + ic2) 5)) (ty := .boolean) hx hb hr (by rcases oC_a.2.2.2.1 with h | h <;> rw [h] <;> rfl) (fun t9 ht hW => ⟨⟨_, (q, σc74), rfl, ⟨_, rfl, ⟨hO2, hE2⟩⟩, Wd_mk (wP_left hP) hE0 hS ht hW⟩, hS.F ht⟩) hS.2.2 dX7_lock_79

set_option maxRecDepth 100000 in
theorem vt54_X7_tandem : ∀ w ∈ (vx_atS RX7 54 "java/lang/IllegalArgumentException" ["java/lang/RuntimeException", "java/lang/Exception"]).filter goodWord, w ∈ wsX7_tandem := by decide +kernel
set_option maxHeartbeats 4000000 in
set_option maxRecDepth 100000 in
/-- X7_tandem -/
theorem c_X7_tandem (l : Launch) (hlT : l.stackTraces = false) (D : va_G) (cy : Nat → ClassId) (a q : Nat → Nat) (σ : Nat → Nat → Int) (sz : Nat) (n0 : Int) (hn0 : rg n0) (n2 : Int) (hn2 : rg n2) (load : Int) (hload : rg load) (part : Int) (hpart : rg part) (t0 : Int) (hO : okA t0 (σ 1 5) q σ) (ht9 : t0 < 1000000) : vx_Met l yX7_tandem wsX7_tandem ({ frames := 10, cells := 3, slots := 18, locals := 400 }) (va_Pc [.ref (a 0), .int (zI (n0)), .int (zI (n2)), .int (zI (load)), .int (zI (part))] (fun U => U.heap.size = sz ∧ Wd D cy a q σ U)) (va_Qi (fun (r : Int32) (u : ((Nat → Nat) × (Nat → Nat → Int))) => ∃ z : Int, r = zI z ∧ (okA (t0 + 1) (u.2 1 5) u.1 u.2 ∧ Ev σ u.2)) (fun (u : ((Nat → Nat) × (Nat → Nat → Int))) t => Wd D cy a u.1 u.2 t) (wF a sz)) (vx_X (fun (_ : Unit) => True) (fun E _ _ => okE E) (fun _ => False)) 3 18 (wF a sz) := by
  refine vx_ofW (cc := cX7_tandem) (maxL := 10) (ret := (some .int)) (by decide) rfl ?_
  intro p e s m args below meth c s₁ B hml hexc hpc0
  obtain ⟨rfl, hsz, hW0⟩ := hpc0
  have hx := B.exec
  have hb := B.bytes
  have hr := B.returns
  have hts := atoms_spec (ws := wsX7_tandem) B.pre
  have hown : s.vm.findClass RX7 = some m.cls := findClass_of_methodNamed B.named
  have hlocks := B.notSynchronized
  subst hsz
  obtain ⟨hP00, hE0⟩ := id hW0
  obtain ⟨hK, hinj, hU0, hN0, hstr, hnest⟩ := id hE0
  have hP : va_P D vwCl (wld cy a q σ ++ []) s.heap := by rw [List.append_nil]; exact hP00
  have hD : va_D (wF a s.heap.size) (wld cy a q σ ++ []) := wD_of hinj
  have hA : ∀ x : Nat, s.heap.size ≤ x → wF a s.heap.size x := fun _ h => Or.inr h
  have hS : va_S (wF a s.heap.size) s.heap s.heap [] := va_S.rf
  have hk0 : ∀ x : Nat, x < s.heap.size → s.heap[x]? = s.heap[x]? := fun _ _ => rfl
  have hl := lv_entry ([.ref (a 0), .int (zI (n0)), .int (zI (n2)), .int (zI (load)), .int (zI (part))]) (n := 10) (Nat.le_of_ble_eq_true rfl)
  rw [lg_entry_eq]
  generalize (lg_sl ([.ref (a 0), .int (zI (n0)), .int (zI (n2)), .int (zI (load)), .int (zI (part))]) ++ List.replicate (10 - (lg_sl ([.ref (a 0), .int (zI (n0)), .int (zI (n2)), .int (zI (load)), .int (zI (part))])).length) Slot.unset).toArray = ls at hl ⊢
  have hl : lv_has ls 10 [(0, .ref (a 0)), (1, .int (zI (n0))), (2, .int (zI (n2))), (3, .int (zI (load))), (4, .int (zI (part)))] := hl
  have k10 := hts (.fieldLink RX7 10 "Slewfree" "weather" "LSlewfree$Weather;") (by decide +kernel)
  have k42 := hts (.fieldLink RX7 42 "Slewfree" "log" "LSlewfree$Log;") (by decide +kernel)
  have k83 := hts (.fieldLink RX7 83 "Slewfree$Crane" "number" "I") (by decide +kernel)
  have k104 := hts (.fieldLink RX7 104 "Slewfree$Weather" "wind" "I") (by decide +kernel)
  have inX0 : ∀ w ∈ u_ws RX0 TX0 12, w ∈ wsX7_tandem := by decide +kernel
  have inX5 : ∀ w ∈ u_ws RX5 TX5 7, w ∈ wsX7_tandem := by decide +kernel
  have inX7 : ∀ w ∈ u_ws RX7 TX7 9, w ∈ wsX7_tandem := by decide +kernel
  obtain ⟨oS, oW, oC, oZ, oM, oL, oP, oQ, oH⟩ := id hO
  unfold okS at oS; unfold okW at oW; unfold okL at oL
  refine lv_aload_n hx hb dX7_tandem_0 rfl (lv_at hl 0 rfl) ?_
  refine lv_iload_n hx hb dX7_tandem_1 rfl (lv_at hl 1 rfl) ?_
  refine vx_callr (vx_runV (As := [.int (zI (n0))]) (rest := []) ⟨hx, hb, hml, hown, hts⟩ (c_X7_craneAt l hlT D cy a q σ s.heap.size (n0) (by omega) (by first | assumption | omega)) (cwV 1 hts gX7_tandem_X7_craneAt rfl rfl rfl (by decide +kernel) ⟨Nat.le_of_ble_eq_true rfl, Nat.le_of_ble_eq_true rfl⟩) ⟨Wd_blind, va_recv hK hP (ci := 9) (q0 := 0) rfl wg_S, fun U hU hW => ⟨rfl, by rw [hU], Wd_mk (wP_left hP) hE0 hS hU hW⟩⟩ rfl rfl hl.1 rfl (lv_room (Nat.le_of_ble_eq_true rfl)) dX7_tandem_2 ⟨(show 0 + 1 ≤ 3 by omega), (show 0 + 6 ≤ 18 by omega)⟩) hS (fun _ _ h => h.elim) (fun _ h => wF_mono hS.1 _ h) (fun _ _ h => h.elim) (fun E9 ce9 q9 u9 t9 H locs ht hvm hpx hE hz hk hS1 hce hcv hcl => ?_) (fun u9 ra9 t9 H locs ht hvm hw hB hz hk hS1 => ?_)
  · skip
    refine vx_widen (k := 3) (n := 18) (by omega) (by omega) ?_
    exact vx_out (fun x h => (hexc x h).elim) hlocks hce hcv hcl (fun t9 ht9 hvm9 => ⟨(), trivial, hE, vF_R ht9 (Nat.le_trans hS.1 hz) (fun x h9 => (hk x (Nat.lt_of_lt_of_le h9 hS.1) (fun h => h)).trans (hk0 x h9))⟩) hS1.2.2 (Nat.le_refl _) (Nat.le_refl _)
  · skip
    have hP := hP.kept (fun k x hk9 => hk x.1 ((hP k x hk9).lt) (fun h => h))
    have hk0 : ∀ x : Nat, x < s.heap.size → H[x]? = s.heap[x]? := fun x h9 => (hk x (Nat.lt_of_lt_of_le h9 hS.1) (fun h => h)).trans (hk0 x h9)
    have hS := hS1
    subst hB
    obtain ⟨ic2, eic2⟩ : ∃ z : Nat, z = u9 := ⟨u9, rfl⟩
    rw [← eic2] at hw ⊢
    have hi2 := hw
    have oC_a := oC ic2 (by omega); unfold okC at oC_a
    refine lv_astore (lv' := [(5, .ref (a (3 + ic2))), (0, .ref (a 0)), (1, .int (zI (n0))), (2, .int (zI (n2))), (3, .int (zI (load))), (4, .int (zI (part)))]) hx hb dX7_tandem_5 hl (by decide) rfl (fun ls hl => ?_)
    refine lv_aload_n hx hb dX7_tandem_7 rfl (lv_at hl 1 rfl) ?_
    refine lv_iload_n hx hb dX7_tandem_8 rfl (lv_at hl 3 rfl) ?_
    refine vx_callr (vx_runV (As := [.int (zI (n2))]) (rest := []) ⟨hx, hb, hml, hown, hts⟩ (c_X7_craneAt l hlT D cy a q σ H.size (n2) (by omega) (by first | assumption | omega)) (cwV 1 hts gX7_tandem_X7_craneAt rfl rfl rfl (by decide +kernel) ⟨Nat.le_of_ble_eq_true rfl, Nat.le_of_ble_eq_true rfl⟩) ⟨Wd_blind, va_recv hK hP (ci := 9) (q0 := 0) rfl wg_S, fun U hU hW => ⟨rfl, by rw [hU], Wd_mk (wP_left hP) hE0 hS hU hW⟩⟩ rfl rfl hl.1 rfl (lv_room (Nat.le_of_ble_eq_true rfl)) dX7_tandem_9 ⟨(show 0 + 1 + 1 ≤ 3 by omega), (show 0 + 6 + 6 ≤ 18 by omega)⟩) hS (fun _ _ h => h.elim) (fun _ h => wF_mono hS.1 _ h) (fun _ _ h => h.elim) (fun E9 ce9 q9 u9 t9 H locs ht hvm hpx hE hz hk hS1 hce hcv hcl => ?_) (fun u9 ra9 t9 H locs ht hvm hw hB hz hk hS1 => ?_)
    · skip
      refine vx_widen (k := 3) (n := 18) (by omega) (by omega) ?_
      exact vx_out (fun x h => (hexc x h).elim) hlocks hce hcv hcl (fun t9 ht9 hvm9 => ⟨(), trivial, hE, vF_R ht9 (Nat.le_trans hS.1 hz) (fun x h9 => (hk x (Nat.lt_of_lt_of_le h9 hS.1) (fun h => h)).trans (hk0 x h9))⟩) hS1.2.2 (Nat.le_refl _) (Nat.le_refl _)
    · skip
      have hP := hP.kept (fun k x hk9 => hk x.1 ((hP k x hk9).lt) (fun h => h))
      have hk0 : ∀ x : Nat, x < s.heap.size → H[x]? = s.heap[x]? := fun x h9 => (hk x (Nat.lt_of_lt_of_le h9 hS.1) (fun h => h)).trans (hk0 x h9)
      have hS := hS1
      subst hB
      obtain ⟨ic9, eic9⟩ : ∃ z : Nat, z = u9 := ⟨u9, rfl⟩
      rw [← eic9] at hw ⊢
      have hi9 := hw
      have oC_b := oC ic9 (by omega); unfold okC at oC_b
      refine lv_astore (lv' := [(6, .ref (a (3 + ic9))), (5, .ref (a (3 + ic2))), (0, .ref (a 0)), (1, .int (zI (n0))), (2, .int (zI (n2))), (3, .int (zI (load))), (4, .int (zI (part)))]) hx hb dX7_tandem_12 hl (by decide) rfl (fun ls hl => ?_)
      refine lv_iload_n hx hb dX7_tandem_14 rfl (lv_at hl 3 rfl) ?_
      refine lv_iload_n hx hb dX7_tandem_15 rfl (lv_at hl 4 rfl) ?_
      refine z_icmp_eq (tgt := 41) hx hb dX7_tandem_16 (by decide) (by omega) (by omega) (fun cd16 => ?_) (fun cd16 => ?_)
      · skip
        obtain ⟨sa9, hsa9⟩ := hstr (217, "two cranes lift, load is 1 to 199, part 1 to 9") (by decide)
        exact vx_throwS (names := ["java/lang/RuntimeException", "java/lang/Exception"]) (sa := sa9) hx hb hlT hown (by decide +kernel) (by decide +kernel) (hts (.classLink RX7 50 "java/lang/IllegalArgumentException") (by decide +kernel)) (hts (.initialized "java/lang/IllegalArgumentException") (by decide +kernel)) hsa9 (vx_hat (fun w h => hts w (vt54_X7_tandem w h)) vf54 hnest.2.2.1.bad) vg54 hU0 hN0 hS (by rw [hml]; exact hl.1) dX7_tandem_41 dX7_tandem_44 dX7_tandem_45 dX7_tandem_47 dX7_tandem_50 (fun x h => (hexc x h).elim) (Nat.le_of_ble_eq_true rfl) (Nat.le_of_ble_eq_true rfl) (show 0 + 1 + 1 + 1 ≤ 3 by omega) (show 0 + 6 + 6 + 6 ≤ 18 by omega) hlocks (fun t9 hvm9 hz9 hk9 => ⟨(), trivial, okE_A, Nat.le_trans hS.1 hz9, fun x h9 _ => (hk9 x (Nat.lt_of_lt_of_le h9 hS.1)).trans (hk0 x h9)⟩) hS.2.2 (by omega) (by omega)
      · skip
        refine lv_iload_n hx hb dX7_tandem_19 rfl (lv_at hl 5 rfl) ?_
        refine lv_iconst (v := zI 1) hx hb dX7_tandem_20 rfl ?_
        refine lv_sipush (v := zI 199) hx hb dX7_tandem_21 (by decide +kernel) ?_
        refine va_calli (va_runS (As := [.int (zI (load)), .int (zI (1)), .int (zI (199))]) (rest := []) ⟨hx, hb, hml, hown, hts⟩ (c_X7_isOutside l (load) (by omega) (1) (by omega) (199) (by omega)) (va_cwS 3 hts gX7_tandem_X7_isOutside rfl rfl rfl (by decide +kernel) ⟨Nat.le_of_ble_eq_true rfl, Nat.le_of_ble_eq_true rfl⟩) ⟨fun _ _ _ _ h => h, fun _ _ _ => ⟨rfl, trivial⟩⟩ rfl rfl hl.1 rfl (lv_room (Nat.le_of_ble_eq_true rfl)) dX7_tandem_24 ⟨(show 0 + 1 + 1 + 0 ≤ 3 by omega), (show 0 + 6 + 6 + 0 ≤ 18 by omega)⟩) hS (fun _ _ h => h.elim) (fun _ h => h.elim) (fun rv24 u9 t9 H locs ht hvm hw hB hz hk hS1 => ?_)
        have hP := hP.kept (fun k x hk9 => hk x.1 ((hP k x hk9).lt) (fun h => h))
        have hk0 : ∀ x : Nat, x < s.heap.size → H[x]? = s.heap[x]? := fun x h9 => (hk x (Nat.lt_of_lt_of_le h9 hS.1) (fun h => h)).trans (hk0 x h9)
        have hS := hS1
        rcases hw with ⟨rfl, bd24⟩ | ⟨rfl, bd24⟩
        · skip
          refine z_if_ne (tgt := 41) hx hb dX7_tandem_27 (by decide) (by decide) (fun _ => ?_) (fun cd27 => absurd cd27 (by decide))
          obtain ⟨sa9, hsa9⟩ := hstr (217, "two cranes lift, load is 1 to 199, part 1 to 9") (by decide)
          exact vx_throwS (names := ["java/lang/RuntimeException", "java/lang/Exception"]) (sa := sa9) hx hb hlT hown (by decide +kernel) (by decide +kernel) (hts (.classLink RX7 50 "java/lang/IllegalArgumentException") (by decide +kernel)) (hts (.initialized "java/lang/IllegalArgumentException") (by decide +kernel)) hsa9 (vx_hat (fun w h => hts w (vt54_X7_tandem w h)) vf54 hnest.2.2.1.bad) vg54 hU0 hN0 hS (by rw [hml]; exact hl.1) dX7_tandem_41 dX7_tandem_44 dX7_tandem_45 dX7_tandem_47 dX7_tandem_50 (fun x h => (hexc x h).elim) (Nat.le_of_ble_eq_true rfl) (Nat.le_of_ble_eq_true rfl) (show 0 + 1 + 1 + 0 + 1 ≤ 3 by omega) (show 0 + 6 + 6 + 0 + 6 ≤ 18 by omega) hlocks (fun t9 hvm9 hz9 hk9 => ⟨(), trivial, okE_A, Nat.le_trans hS.1 hz9, fun x h9 _ => (hk9 x (Nat.lt_of_lt_of_le h9 hS.1)).trans (hk0 x h9)⟩) hS.2.2 (by omega) (by omega)
        · skip
          refine z_if_ne (tgt := 41) hx hb dX7_tandem_27 (by decide) (by decide) (fun cd27 => absurd cd27 (by decide)) (fun _ => ?_)
          refine lv_iload hx hb dX7_tandem_30 (lv_at hl 6 rfl) ?_
          refine lv_iconst (v := zI 1) hx hb dX7_tandem_32 rfl ?_
          refine lv_bipush (v := zI 9) hx hb dX7_tandem_33 (by decide +kernel) ?_
          refine va_calli (va_runS (As := [.int (zI (part)), .int (zI (1)), .int (zI (9))]) (rest := []) ⟨hx, hb, hml, hown, hts⟩ (c_X7_isOutside l (part) (by omega) (1) (by omega) (9) (by omega)) (va_cwS 3 hts gX7_tandem_X7_isOutside rfl rfl rfl (by decide +kernel) ⟨Nat.le_of_ble_eq_true rfl, Nat.le_of_ble_eq_true rfl⟩) ⟨fun _ _ _ _ h => h, fun _ _ _ => ⟨rfl, trivial⟩⟩ rfl rfl hl.1 rfl (lv_room (Nat.le_of_ble_eq_true rfl)) dX7_tandem_35 ⟨(show 0 + 1 + 1 + 0 + 0 ≤ 3 by omega), (show 0 + 6 + 6 + 0 + 0 ≤ 18 by omega)⟩) hS (fun _ _ h => h.elim) (fun _ h => h.elim) (fun rv35 u9 t9 H locs ht hvm hw hB hz hk hS1 => ?_)
          have hP := hP.kept (fun k x hk9 => hk x.1 ((hP k x hk9).lt) (fun h => h))
          have hk0 : ∀ x : Nat, x < s.heap.size → H[x]? = s.heap[x]? := fun x h9 => (hk x (Nat.lt_of_lt_of_le h9 hS.1) (fun h => h)).trans (hk0 x h9)
          have hS := hS1
          rcases hw with ⟨rfl, bd35⟩ | ⟨rfl, bd35⟩
          · skip
            refine z_if_eq (tgt := 51) hx hb dX7_tandem_38 (by decide) (by decide) (fun cd38 => absurd cd38 (by decide)) (fun _ => ?_)
            obtain ⟨sa9, hsa9⟩ := hstr (217, "two cranes lift, load is 1 to 199, part 1 to 9") (by decide)
            exact vx_throwS (names := ["java/lang/RuntimeException", "java/lang/Exception"]) (sa := sa9) hx hb hlT hown (by decide +kernel) (by decide +kernel) (hts (.classLink RX7 50 "java/lang/IllegalArgumentException") (by decide +kernel)) (hts (.initialized "java/lang/IllegalArgumentException") (by decide +kernel)) hsa9 (vx_hat (fun w h => hts w (vt54_X7_tandem w h)) vf54 hnest.2.2.1.bad) vg54 hU0 hN0 hS (by rw [hml]; exact hl.1) dX7_tandem_41 dX7_tandem_44 dX7_tandem_45 dX7_tandem_47 dX7_tandem_50 (fun x h => (hexc x h).elim) (Nat.le_of_ble_eq_true rfl) (Nat.le_of_ble_eq_true rfl) (show 0 + 1 + 1 + 0 + 0 + 1 ≤ 3 by omega) (show 0 + 6 + 6 + 0 + 0 + 6 ≤ 18 by omega) hlocks (fun t9 hvm9 hz9 hk9 => ⟨(), trivial, okE_A, Nat.le_trans hS.1 hz9, fun x h9 _ => (hk9 x (Nat.lt_of_lt_of_le h9 hS.1)).trans (hk0 x h9)⟩) hS.2.2 (by omega) (by omega)
          · skip
            refine z_if_eq (tgt := 51) hx hb dX7_tandem_38 (by decide) (by decide) (fun _ => ?_) (fun cd38 => absurd cd38 (by decide))
            have hp1 := mul_bound (d := load) (k := part) (m := 199) (n := 9) (by omega) (by omega) (by omega) (by omega)
            have hp2 := mul_bound (d := load) (k := 10 - part) (m := 199) (n := 9) (by omega) (by omega) (by omega) (by omega)
            refine lv_iload_n hx hb dX7_tandem_51 rfl (lv_at hl 5 rfl) ?_
            refine lv_iload hx hb dX7_tandem_52 (lv_at hl 6 rfl) ?_
            refine z_imul hx hb dX7_tandem_54 ?_
            refine va_calli (va_runS (As := [.int (zI (load * part))]) (rest := []) ⟨hx, hb, hml, hown, hts⟩ (c_X7_tenthRoundedUp l (load * part) (by omega) (by first | assumption | omega)) (va_cwS 1 hts gX7_tandem_X7_tenthRoundedUp rfl rfl rfl (by decide +kernel) ⟨Nat.le_of_ble_eq_true rfl, Nat.le_of_ble_eq_true rfl⟩) ⟨fun _ _ _ _ h => h, fun _ _ _ => ⟨rfl, trivial⟩⟩ rfl rfl hl.1 rfl (lv_room (Nat.le_of_ble_eq_true rfl)) dX7_tandem_55 ⟨(show 0 + 1 + 1 + 0 + 0 + 0 ≤ 3 by omega), (show 0 + 6 + 6 + 0 + 0 + 0 ≤ 18 by omega)⟩) hS (fun _ _ h => h.elim) (fun _ h => h.elim) (fun rv55 u9 t9 H locs ht hvm hw hB hz hk hS1 => ?_)
            have hP := hP.kept (fun k x hk9 => hk x.1 ((hP k x hk9).lt) (fun h => h))
            have hk0 : ∀ x : Nat, x < s.heap.size → H[x]? = s.heap[x]? := fun x h9 => (hk x (Nat.lt_of_lt_of_le h9 hS.1) (fun h => h)).trans (hk0 x h9)
            have hS := hS1
            obtain rfl := hw
            refine lv_istore (lv' := [(7, .int (zI (((load * part) + 9) / 10))), (6, .ref (a (3 + ic9))), (5, .ref (a (3 + ic2))), (0, .ref (a 0)), (1, .int (zI (n0))), (2, .int (zI (n2))), (3, .int (zI (load))), (4, .int (zI (part)))]) hx hb dX7_tandem_58 hl (by decide) rfl (fun ls hl => ?_)
            refine lv_iload_n hx hb dX7_tandem_60 rfl (lv_at hl 6 rfl) ?_
            refine lv_bipush (v := zI 10) hx hb dX7_tandem_61 (by decide +kernel) ?_
            refine lv_iload hx hb dX7_tandem_63 (lv_at hl 7 rfl) ?_
            refine z_isub hx hb dX7_tandem_65 ?_
            refine z_imul hx hb dX7_tandem_66 ?_
            refine va_calli (va_runS (As := [.int (zI (load * (10 - part)))]) (rest := []) ⟨hx, hb, hml, hown, hts⟩ (c_X7_tenthRoundedUp l (load * (10 - part)) (by omega) (by first | assumption | omega)) (va_cwS 1 hts gX7_tandem_X7_tenthRoundedUp rfl rfl rfl (by decide +kernel) ⟨Nat.le_of_ble_eq_true rfl, Nat.le_of_ble_eq_true rfl⟩) ⟨fun _ _ _ _ h => h, fun _ _ _ => ⟨rfl, trivial⟩⟩ rfl rfl hl.1 rfl (lv_room (Nat.le_of_ble_eq_true rfl)) dX7_tandem_67 ⟨(show 0 + 1 + 1 + 0 + 0 + 0 + 0 ≤ 3 by omega), (show 0 + 6 + 6 + 0 + 0 + 0 + 0 ≤ 18 by omega)⟩) hS (fun _ _ h => h.elim) (fun _ h => h.elim) (fun rv67 u9 t9 H locs ht hvm hw hB hz hk hS1 => ?_)
            have hP := hP.kept (fun k x hk9 => hk x.1 ((hP k x hk9).lt) (fun h => h))
            have hk0 : ∀ x : Nat, x < s.heap.size → H[x]? = s.heap[x]? := fun x h9 => (hk x (Nat.lt_of_lt_of_le h9 hS.1) (fun h => h)).trans (hk0 x h9)
            have hS := hS1
            obtain rfl := hw
            refine lv_istore (lv' := [(8, .int (zI (((load * (10 - part)) + 9) / 10))), (7, .int (zI (((load * part) + 9) / 10))), (6, .ref (a (3 + ic9))), (5, .ref (a (3 + ic2))), (0, .ref (a 0)), (1, .int (zI (n0))), (2, .int (zI (n2))), (3, .int (zI (load))), (4, .int (zI (part)))]) hx hb dX7_tandem_70 hl (by decide) rfl (fun ls hl => ?_)
            refine lv_aload_n hx hb dX7_tandem_72 rfl (lv_at hl 4 rfl) ?_
            refine lv_aload hx hb dX7_tandem_73 (lv_at hl 3 rfl) ?_
            refine lv_iload hx hb dX7_tandem_75 (lv_at hl 1 rfl) ?_
            refine lv_aload hx hb dX7_tandem_77 (lv_at hl 2 rfl) ?_
            refine lv_iload hx hb dX7_tandem_79 (lv_at hl 0 rfl) ?_
            refine va_calli (va_runV (As := [.ref (a (3 + ic2)), .int (zI (((load * part) + 9) / 10)), .ref (a (3 + ic9)), .int (zI (((load * (10 - part)) + 9) / 10))]) (rest := []) ⟨hx, hb, hml, hown, hts⟩ (c_X7_tandemVerdict l D cy a q σ H.size ic2 (by first | assumption | omega) (((load * part) + 9) / 10) (by omega) ic9 (by first | assumption | omega) (((load * (10 - part)) + 9) / 10) (by omega) (by omega) (by omega) _ _ hO) (cwV 4 hts gX7_tandem_X7_tandemVerdict rfl rfl rfl (by decide +kernel) ⟨Nat.le_of_ble_eq_true rfl, Nat.le_of_ble_eq_true rfl⟩) ⟨Wd_blind, va_recv hK hP (ci := 9) (q0 := 0) rfl wg_S, fun U hU hW => ⟨rfl, by rw [hU], Wd_mk (wP_left hP) hE0 hS hU hW⟩⟩ rfl rfl hl.1 rfl (lv_room (Nat.le_of_ble_eq_true rfl)) dX7_tandem_81 ⟨(show 0 + 1 + 1 + 0 + 0 + 0 + 0 + 0 ≤ 3 by omega), (show 0 + 6 + 6 + 0 + 0 + 0 + 0 + 0 ≤ 18 by omega)⟩) hS (fun _ _ h => h.elim) (fun _ h => wF_mono hS.1 _ h) (fun rv81 u9 t9 H locs ht hvm hw hB hz hk hS1 => ?_)
            have hP := hP.kept (fun k x hk9 => hk x.1 ((hP k x hk9).lt) (fun h => h))
            have hk0 : ∀ x : Nat, x < s.heap.size → H[x]? = s.heap[x]? := fun x h9 => (hk x (Nat.lt_of_lt_of_le h9 hS.1) (fun h => h)).trans (hk0 x h9)
            have hS := hS1
            obtain ⟨zc81, rfl, hz81⟩ := hw
            refine lv_istore (lv' := [(9, .int (zI (zc81))), (8, .int (zI (((load * (10 - part)) + 9) / 10))), (7, .int (zI (((load * part) + 9) / 10))), (6, .ref (a (3 + ic9))), (5, .ref (a (3 + ic2))), (0, .ref (a 0)), (1, .int (zI (n0))), (2, .int (zI (n2))), (3, .int (zI (load))), (4, .int (zI (part)))]) hx hb dX7_tandem_84 hl (by decide) rfl (fun ls hl => ?_)
            refine lv_iload hx hb dX7_tandem_86 (lv_at hl 0 rfl) ?_
            refine z_if_ne (tgt := 105) hx hb dX7_tandem_88 (by decide) (by omega) (fun cd88 => ?_) (fun cd88 => ?_)
            · skip
              have hO1 := hO
              have hE1 := Ev.rf σ
              have h1s : σ 1 = σ 1 := rfl
              have hn2 : σ (3 + ic2) 0 = ic2 := by omega
              have hwd : 0 ≤ σ 1 5 ∧ σ 1 5 ≤ 41 := by rw [h1s]; omega
              refine lv_aload_n hx hb dX7_tandem_105 rfl (lv_at hl 5 rfl) ?_
              refine va_get (D := D) (ci := 9) (v := .ref (a 20)) (C := RX7) (T := TX7) (N := 9) hx hb hts inX7 hown hK hP 0 wg_S rfl 4 (by decide) k42 (fun _ h9 => h9) rfl dX7_tandem_106 ?_
              refine lv_iconst (v := zI 1) hx hb dX7_tandem_109 rfl ?_
              refine lv_aload hx hb dX7_tandem_110 (lv_at hl 4 rfl) ?_
              refine va_get (D := D) (ci := 2) (v := .int (zI (σ (3 + ic2) 0))) (C := RX0) (T := TX0) (N := 12) hx hb hts inX0 hown hK hP (3 + ic2) (wg_C (i := ic2) (by first | assumption | omega)) rfl 0 (by decide) k83 (fun _ h9 => h9) rfl dX7_tandem_112 ?_
              refine lv_aload_n hx hb dX7_tandem_115 rfl (lv_at hl 5 rfl) ?_
              refine va_get (D := D) (ci := 9) (v := .ref (a 1)) (C := RX7) (T := TX7) (N := 9) hx hb hts inX7 hown hK hP 0 wg_S rfl 0 (by decide) k10 (fun _ h9 => h9) rfl dX7_tandem_116 ?_
              refine va_get (D := D) (ci := 7) (v := .int (zI (σ 1 5))) (C := RX5) (T := TX5) (N := 7) hx hb hts inX5 hown hK hP 1 wg_W rfl 5 (by decide) k104 (fun _ h9 => h9) rfl dX7_tandem_119 ?_
              refine lv_iload_n hx hb dX7_tandem_122 rfl (lv_at hl 8 rfl) ?_
              refine lv_iload hx hb dX7_tandem_123 (lv_at hl 0 rfl) ?_
              refine lv_iconst (v := zI (-1)) hx hb dX7_tandem_125 rfl ?_
              refine va_callv (va_runV (As := [.int (zI (1)), .int (zI (σ (3 + ic2) 0)), .int (zI (σ 1 5)), .int (zI (load)), .int (zI (zc81)), .int (zI (-1))]) (rest := []) ⟨hx, hb, hml, hown, hts⟩ (c_X1_write l D cy a q σ H.size (1) (by omega) (σ (3 + ic2) 0) (by omega) (σ 1 5) (by omega) (load) (by omega) (zc81) (by omega) (-1) (by omega) (by first | assumption | omega) _ _ hO1) (cwV 6 hts gX7_tandem_X1_write rfl rfl rfl (by decide +kernel) ⟨Nat.le_of_ble_eq_true rfl, Nat.le_of_ble_eq_true rfl⟩) ⟨Wd_blind, va_recv hK hP (ci := 3) (q0 := 20) rfl wg_L, fun U hU hW => ⟨rfl, by rw [hU], Wd_mk (wP_left hP) hE0 hS hU hW⟩⟩ rfl rfl hl.1 rfl (lv_room (Nat.le_of_ble_eq_true rfl)) dX7_tandem_126 ⟨(show 0 + 1 + 1 + 0 + 0 + 0 + 0 + 0 + 0 ≤ 3 by omega), (show 0 + 6 + 6 + 0 + 0 + 0 + 0 + 0 + 0 ≤ 18 by omega)⟩) hS (fun _ _ h => wF_mono hS.1 _ h) (fun _ h => wF_mono hS.1 _ h) (fun u9 t9 H locs ht hvm hw hB hz hk hS1 => ?_)
              obtain ⟨qc126, σc126⟩ := u9
              have hB1 : va_P D vwCl (wld cy a qc126 σc126) t9.heap := hB.1
              rw [ht] at hB1
              obtain ⟨hP, hD⟩ := wd_join hP hD hk hB1
              try dsimp only at hw
              have hS := hS1
              have hw126 := hw
              obtain ⟨hq9, hO3, hWr⟩ := hw126
              obtain rfl : q = qc126 := hq9.symm
              have hO2 : okA (t0 + 1) (σc126 1 5) q σc126 := by
                rw [show σc126 1 5 = σ 1 5 by rw [hWr.1 1 (by omega), h1s]]
                exact okA_mono hO3 (by omega) (by omega)
              have hE2 : Ev σ σc126 := hE1.tr hWr.ev
              refine lv_iload hx hb dX7_tandem_129 (lv_at hl 0 rfl) ?_
              refine vx_ret ?_
              refine W.widen (k := 3) (n := 18) (by omega) (by omega) ?_
              exact W.iret (v := zI (zc81)) hx hb hr (fun t9 ht hW => ⟨⟨_, (q, σc126), rfl, ⟨_, rfl, ⟨hO2, hE2⟩⟩, Wd_mk (wP_left hP) hE0 hS ht hW⟩, hS.F ht⟩) hS.2.2 dX7_tandem_131
            · skip
              refine lv_aload hx hb dX7_tandem_91 (lv_at hl 4 rfl) ?_
              refine lv_iload hx hb dX7_tandem_93 (lv_at hl 2 rfl) ?_
              refine va_callv (va_runV (As := [.int (zI (((load * part) + 9) / 10))]) (rest := []) ⟨hx, hb, hml, hown, hts⟩ (c_X0_wearBy l D cy a q σ H.size ic2 (by first | assumption | omega) (((load * part) + 9) / 10) (by omega) (by first | assumption | omega) (by first | assumption | omega) (by omega)) (cwV 1 hts gX7_tandem_X0_wearBy rfl rfl rfl (by decide +kernel) ⟨Nat.le_of_ble_eq_true rfl, Nat.le_of_ble_eq_true rfl⟩) ⟨Wd_blind, va_recv hK hP (ci := 2) (q0 := (3 + ic2)) rfl (wg_C (i := ic2) (by first | assumption | omega)), fun U hU hW => ⟨rfl, by rw [hU], Wd_mk (wP_left hP) hE0 hS hU hW⟩⟩ rfl rfl hl.1 rfl (lv_room (Nat.le_of_ble_eq_true rfl)) dX7_tandem_95 ⟨(show 0 + 1 + 1 + 0 + 0 + 0 + 0 + 0 + 0 ≤ 3 by omega), (show 0 + 6 + 6 + 0 + 0 + 0 + 0 + 0 + 0 ≤ 18 by omega)⟩) hS (fun _ _ h => wF_mono hS.1 _ h) (fun _ h => wF_mono hS.1 _ h) (fun u9 t9 H locs ht hvm hw hB hz hk hS1 => ?_)
              obtain ⟨qc95, σc95⟩ := u9
              have hB1 : va_P D vwCl (wld cy a qc95 σc95) t9.heap := hB.1
              rw [ht] at hB1
              obtain ⟨hP, hD⟩ := wd_join hP hD hk hB1
              try dsimp only at hw
              have hS := hS1
              have hw95 := hw
              obtain ⟨hq9, hs95⟩ := hw95
              obtain rfl : q = qc95 := hq9.symm
              have hne : ic2 ≠ ic9 := by omega
              have fw0 : ∀ j, σc95 (3 + ic9) j = σ (3 + ic9) j := fun j => by rw [hs95, up2_n (by omega)]
              have hm1 : 0 ≤ (((load * part) + 9) / 10) * σ (3 + ic2) 2 ∧ (((load * part) + 9) / 10) * σ (3 + ic2) 2 ≤ 796 := by rcases oC_a.2.2.2.2.2.2.2.2.2 (by omega) with ⟨-, -, h | h, -⟩ <;> rw [h] <;> omega
              have hO1 : okA t0 (σ 1 5) q σc95 := by
                rw [hs95]
                refine okA_C hO (by omega) ?_
                show σ (3 + ic2) 0 = ic2 ∧ 0 ≤ σ (3 + ic2) 3 ∧ σ (3 + ic2) 3 ≤ 23 ∧ (σ (3 + ic2) 5 = 0 ∨ σ (3 + ic2) 5 = 1) ∧ (0 ≤ σ (3 + ic2) 9 ∧ σ (3 + ic2) 9 ≤ σ (3 + ic2) 8 ∧ σ (3 + ic2) 8 ≤ σ (3 + ic2) 7 ∧ σ (3 + ic2) 7 ≤ σ (3 + ic2) 6 ∧ σ (3 + ic2) 6 ≤ 99) ∧ 0 ≤ (σ (3 + ic2) 10 + ((((load * part) + 9) / 10) * σ (3 + ic2) 2 / 4 + 1) : Int) ∧ (σ (3 + ic2) 10 + ((((load * part) + 9) / 10) * σ (3 + ic2) 2 / 4 + 1) : Int) ≤ 1000 ∧ 0 ≤ σ (3 + ic2) 11 ∧ σ (3 + ic2) 11 ≤ t0 ∧ ((ic2 : Int) < σ 0 5 → 10 ≤ σ (3 + ic2) 1 ∧ σ (3 + ic2) 1 ≤ 40 ∧ (σ (3 + ic2) 2 = 2 ∨ σ (3 + ic2) 2 = 4) ∧ 10 ≤ σ (3 + ic2) 4 ∧ σ (3 + ic2) 4 ≤ σ (3 + ic2) 1 ∧ (12 < σ 1 5 → σ (3 + ic2) 5 = 0))
                omega
              have hE1 : Ev σ σc95 := by rw [hs95]; exact Ev_C (by omega) (Int.le_refl _)
              refine lv_aload hx hb dX7_tandem_98 (lv_at hl 3 rfl) ?_
              refine lv_iload hx hb dX7_tandem_100 (lv_at hl 1 rfl) ?_
              refine va_callv (va_runV (As := [.int (zI (((load * (10 - part)) + 9) / 10))]) (rest := []) ⟨hx, hb, hml, hown, hts⟩ (c_X0_wearBy l D cy a q σc95 H.size ic9 (by first | assumption | omega) (((load * (10 - part)) + 9) / 10) (by omega) (by rw [fw0]; omega) (by first | assumption | omega) (by rw [fw0]; omega)) (cwV 1 hts gX7_tandem_X0_wearBy rfl rfl rfl (by decide +kernel) ⟨Nat.le_of_ble_eq_true rfl, Nat.le_of_ble_eq_true rfl⟩) ⟨Wd_blind, va_recv hK hP (ci := 2) (q0 := (3 + ic9)) rfl (wg_C (i := ic9) (by first | assumption | omega)), fun U hU hW => ⟨rfl, by rw [hU], Wd_mk (wP_left hP) hE0 hS hU hW⟩⟩ rfl rfl hl.1 rfl (lv_room (Nat.le_of_ble_eq_true rfl)) dX7_tandem_102 ⟨(show 0 + 1 + 1 + 0 + 0 + 0 + 0 + 0 + 0 + 0 ≤ 3 by omega), (show 0 + 6 + 6 + 0 + 0 + 0 + 0 + 0 + 0 + 0 ≤ 18 by omega)⟩) hS (fun _ _ h => wF_mono hS.1 _ h) (fun _ h => wF_mono hS.1 _ h) (fun u9 t9 H locs ht hvm hw hB hz hk hS1 => ?_)
              obtain ⟨qc102, σc102⟩ := u9
              have hB1 : va_P D vwCl (wld cy a qc102 σc102) t9.heap := hB.1
              rw [ht] at hB1
              obtain ⟨hP, hD⟩ := wd_join hP hD hk hB1
              try dsimp only at hw
              have hS := hS1
              have hw102 := hw
              obtain ⟨hq9, hs102⟩ := hw102
              obtain rfl : q = qc102 := hq9.symm
              have hm2 : 0 ≤ (((load * (10 - part)) + 9) / 10) * σc95 (3 + ic9) 2 ∧ (((load * (10 - part)) + 9) / 10) * σc95 (3 + ic9) 2 ≤ 796 := by rw [fw0]; rcases oC_b.2.2.2.2.2.2.2.2.2 (by omega) with ⟨-, -, h | h, -⟩ <;> rw [h] <;> omega
              have oC_c : okC t0 ic9 (σc95 0 5) (σ 1 5) (σc95 (3 + ic9)) := hO1.2.2.1 ic9 (by omega)
              unfold okC at oC_c
              have h80 : σc95 (3 + ic9) 10 < 80 := by rw [fw0]; omega
              have hO1 : okA t0 (σ 1 5) q σc102 := by
                rw [hs102]
                refine okA_C hO1 (by omega) ?_
                show σc95 (3 + ic9) 0 = ic9 ∧ 0 ≤ σc95 (3 + ic9) 3 ∧ σc95 (3 + ic9) 3 ≤ 23 ∧ (σc95 (3 + ic9) 5 = 0 ∨ σc95 (3 + ic9) 5 = 1) ∧ (0 ≤ σc95 (3 + ic9) 9 ∧ σc95 (3 + ic9) 9 ≤ σc95 (3 + ic9) 8 ∧ σc95 (3 + ic9) 8 ≤ σc95 (3 + ic9) 7 ∧ σc95 (3 + ic9) 7 ≤ σc95 (3 + ic9) 6 ∧ σc95 (3 + ic9) 6 ≤ 99) ∧ 0 ≤ (σc95 (3 + ic9) 10 + ((((load * (10 - part)) + 9) / 10) * σc95 (3 + ic9) 2 / 4 + 1) : Int) ∧ (σc95 (3 + ic9) 10 + ((((load * (10 - part)) + 9) / 10) * σc95 (3 + ic9) 2 / 4 + 1) : Int) ≤ 1000 ∧ 0 ≤ σc95 (3 + ic9) 11 ∧ σc95 (3 + ic9) 11 ≤ t0 ∧ ((ic9 : Int) < σc95 0 5 → 10 ≤ σc95 (3 + ic9) 1 ∧ σc95 (3 + ic9) 1 ≤ 40 ∧ (σc95 (3 + ic9) 2 = 2 ∨ σc95 (3 + ic9) 2 = 4) ∧ 10 ≤ σc95 (3 + ic9) 4 ∧ σc95 (3 + ic9) 4 ≤ σc95 (3 + ic9) 1 ∧ (12 < σ 1 5 → σc95 (3 + ic9) 5 = 0))
                omega
              have hE1 : Ev σ σc102 := hE1.tr (by rw [hs102]; exact Ev_C (by omega) (Int.le_refl _))
              have h1s : σc102 1 = σ 1 := by rw [hs102, up2_n (by omega), hs95, up2_n (by omega)]
              have hn2 : σc102 (3 + ic2) 0 = ic2 := by rw [hs102, up2_n (by omega), hs95, g_fe (by decide)]; omega
              have hwd : 0 ≤ σc102 1 5 ∧ σc102 1 5 ≤ 41 := by rw [h1s]; omega
              refine lv_aload_n hx hb dX7_tandem_105 rfl (lv_at hl 5 rfl) ?_
              refine va_get (D := D) (ci := 9) (v := .ref (a 20)) (C := RX7) (T := TX7) (N := 9) hx hb hts inX7 hown hK hP 0 wg_S rfl 4 (by decide) k42 (fun _ h9 => h9) rfl dX7_tandem_106 ?_
              refine lv_iconst (v := zI 1) hx hb dX7_tandem_109 rfl ?_
              refine lv_aload hx hb dX7_tandem_110 (lv_at hl 4 rfl) ?_
              refine va_get (D := D) (ci := 2) (v := .int (zI (σc102 (3 + ic2) 0))) (C := RX0) (T := TX0) (N := 12) hx hb hts inX0 hown hK hP (3 + ic2) (wg_C (i := ic2) (by first | assumption | omega)) rfl 0 (by decide) k83 (fun _ h9 => h9) rfl dX7_tandem_112 ?_
              refine lv_aload_n hx hb dX7_tandem_115 rfl (lv_at hl 5 rfl) ?_
              refine va_get (D := D) (ci := 9) (v := .ref (a 1)) (C := RX7) (T := TX7) (N := 9) hx hb hts inX7 hown hK hP 0 wg_S rfl 0 (by decide) k10 (fun _ h9 => h9) rfl dX7_tandem_116 ?_
              refine va_get (D := D) (ci := 7) (v := .int (zI (σc102 1 5))) (C := RX5) (T := TX5) (N := 7) hx hb hts inX5 hown hK hP 1 wg_W rfl 5 (by decide) k104 (fun _ h9 => h9) rfl dX7_tandem_119 ?_
              refine lv_iload_n hx hb dX7_tandem_122 rfl (lv_at hl 8 rfl) ?_
              refine lv_iload hx hb dX7_tandem_123 (lv_at hl 0 rfl) ?_
              refine lv_iconst (v := zI (-1)) hx hb dX7_tandem_125 rfl ?_
              refine va_callv (va_runV (As := [.int (zI (1)), .int (zI (σc102 (3 + ic2) 0)), .int (zI (σc102 1 5)), .int (zI (load)), .int (zI (zc81)), .int (zI (-1))]) (rest := []) ⟨hx, hb, hml, hown, hts⟩ (c_X1_write l D cy a q σc102 H.size (1) (by omega) (σc102 (3 + ic2) 0) (by omega) (σc102 1 5) (by omega) (load) (by omega) (zc81) (by omega) (-1) (by omega) (by first | assumption | omega) _ _ hO1) (cwV 6 hts gX7_tandem_X1_write rfl rfl rfl (by decide +kernel) ⟨Nat.le_of_ble_eq_true rfl, Nat.le_of_ble_eq_true rfl⟩) ⟨Wd_blind, va_recv hK hP (ci := 3) (q0 := 20) rfl wg_L, fun U hU hW => ⟨rfl, by rw [hU], Wd_mk (wP_left hP) hE0 hS hU hW⟩⟩ rfl rfl hl.1 rfl (lv_room (Nat.le_of_ble_eq_true rfl)) dX7_tandem_126 ⟨(show 0 + 1 + 1 + 0 + 0 + 0 + 0 + 0 + 0 + 0 + 0 ≤ 3 by omega), (show 0 + 6 + 6 + 0 + 0 + 0 + 0 + 0 + 0 + 0 + 0 ≤ 18 by omega)⟩) hS (fun _ _ h => wF_mono hS.1 _ h) (fun _ h => wF_mono hS.1 _ h) (fun u9 t9 H locs ht hvm hw hB hz hk hS1 => ?_)
              obtain ⟨qc126, σc126⟩ := u9
              have hB1 : va_P D vwCl (wld cy a qc126 σc126) t9.heap := hB.1
              rw [ht] at hB1
              obtain ⟨hP, hD⟩ := wd_join hP hD hk hB1
              try dsimp only at hw
              have hS := hS1
              have hw126 := hw
              obtain ⟨hq9, hO3, hWr⟩ := hw126
              obtain rfl : q = qc126 := hq9.symm
              have hO2 : okA (t0 + 1) (σc126 1 5) q σc126 := by
                rw [show σc126 1 5 = σ 1 5 by rw [hWr.1 1 (by omega), h1s]]
                exact okA_mono hO3 (by omega) (by omega)
              have hE2 : Ev σ σc126 := hE1.tr hWr.ev
              refine lv_iload hx hb dX7_tandem_129 (lv_at hl 0 rfl) ?_
              refine vx_ret ?_
              refine W.widen (k := 3) (n := 18) (by omega) (by omega) ?_
              exact W.iret (v := zI (zc81)) hx hb hr (fun t9 ht hW => ⟨⟨_, (q, σc126), rfl, ⟨_, rfl, ⟨hO2, hE2⟩⟩, Wd_mk (wP_left hP) hE0 hS ht hW⟩, hS.F ht⟩) hS.2.2 dX7_tandem_131
