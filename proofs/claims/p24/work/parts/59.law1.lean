set_option maxHeartbeats 4000000 in
set_option maxRecDepth 100000 in
/-- X7_capacity -/
theorem c_X7_capacity2 (l : Launch) (hlT : l.stackTraces = false) (D : va_G) (cy : Nat → ClassId) (a q : Nat → Nat) (σ : Nat → Nat → Int) (sz : Nat) (n0 : Int) (hn0 : rg n0) (d : Int) (hd : rg d) (t0 : Int) (wi : Int) (hO : okA t0 wi q σ) : vx_Met l yX7_capacity wsX7_capacity ({ frames := 10, cells := 2, slots := 12, locals := 400 }) (va_Pc [.ref (a 0), .int (zI (n0)), .int (zI (d))] (fun U => U.heap.size = sz ∧ Wd D cy a q σ U)) (va_Qi (fun (r : Int32) (_ : Unit) => ∃ z : Int, r = zI z ∧ (z = cpF (σ (3 + n0.toNat)) d (σ 1 5) ∧ 0 ≤ n0 ∧ n0 < σ 0 5 ∧ 10 ≤ d ∧ d ≤ σ (3 + n0.toNat) 1)) (fun _ _ => True) (fun _ => False)) (vx_X (fun (_ : Unit) => n0 < 0 ∨ σ 0 5 ≤ n0 ∨ d < 10 ∨ σ (3 + n0.toNat) 1 < d) (fun E _ _ => okE E) (fun _ => False)) 2 12 (wF a sz) := by
  refine vx_ofW (cc := cX7_capacity) (maxL := 4) (ret := (some .int)) (by decide) rfl ?_
  intro p e s m args below meth c s₁ B hml hexc hpc0
  obtain ⟨rfl, hsz, hW0⟩ := hpc0
  have hx := B.exec
  have hb := B.bytes
  have hr := B.returns
  have hts := atoms_spec (ws := wsX7_capacity) B.pre
  have hown : s.vm.findClass RX7 = some m.cls := findClass_of_methodNamed B.named
  have hlocks := B.notSynchronized
  subst hsz
  obtain ⟨hP00, hE0⟩ := id hW0
  obtain ⟨hK, hinj, hU0, hN0, hstr, hnest⟩ := id hE0
  have hP : va_P D vwCl (wld cy a q σ ++ []) s.heap := by rw [List.append_nil]; exact hP00
  have hD : va_D (wF a s.heap.size) (wld cy a q σ ++ []) := wD_of hinj
  have hA : ∀ x : Nat, s.heap.size ≤ x → wF a s.heap.size x := fun _ h => Or.inr h
  have hS : va_S (wF a s.heap.size) s.heap s.heap [] := va_S.rf
  have hk0 : ∀ x : Nat, x < s.heap.size → s.heap[x]? = s.heap[x]? := fun _ _ => rfl
  have hl := lv_entry ([.ref (a 0), .int (zI (n0)), .int (zI (d))]) (n := 4) (Nat.le_of_ble_eq_true rfl)
  rw [lg_entry_eq]
  generalize (lg_sl ([.ref (a 0), .int (zI (n0)), .int (zI (d))]) ++ List.replicate (4 - (lg_sl ([.ref (a 0), .int (zI (n0)), .int (zI (d))])).length) Slot.unset).toArray = ls at hl ⊢
  have hl : lv_has ls 4 [(0, .ref (a 0)), (1, .int (zI (n0))), (2, .int (zI (d)))] := hl
  have k10 := hts (.fieldLink RX7 10 "Slewfree" "weather" "LSlewfree$Weather;") (by decide +kernel)
  have k66 := hts (.fieldLink RX7 66 "Slewfree$Crane" "reach" "I") (by decide +kernel)
  have k104 := hts (.fieldLink RX7 104 "Slewfree$Weather" "wind" "I") (by decide +kernel)
  have inX0 : ∀ w ∈ u_ws RX0 TX0 12, w ∈ wsX7_capacity := by decide +kernel
  have inX5 : ∀ w ∈ u_ws RX5 TX5 7, w ∈ wsX7_capacity := by decide +kernel
  have inX7 : ∀ w ∈ u_ws RX7 TX7 9, w ∈ wsX7_capacity := by decide +kernel
  obtain ⟨oS, oW, oC, oZ, oM, oL, oP, oQ, oH⟩ := id hO
  unfold okS at oS; unfold okW at oW; unfold okL at oL
  refine lv_aload_n hx hb dX7_capacity_0 rfl (lv_at hl 0 rfl) ?_
  refine lv_iload_n hx hb dX7_capacity_1 rfl (lv_at hl 1 rfl) ?_
  refine vx_callr (vx_runV (As := [.int (zI (n0))]) (rest := []) ⟨hx, hb, hml, hown, hts⟩ (c_X7_craneAt l hlT D cy a q σ s.heap.size (n0) (by omega) (by first | assumption | omega)) (cwV 1 hts gX7_capacity_X7_craneAt rfl rfl rfl (by decide +kernel) ⟨Nat.le_of_ble_eq_true rfl, Nat.le_of_ble_eq_true rfl⟩) ⟨Wd_blind, va_recv hK hP (ci := 9) (q0 := 0) rfl wg_S, fun U hU hW => ⟨rfl, by rw [hU], Wd_mk (wP_left hP) hE0 hS hU hW⟩⟩ rfl rfl hl.1 rfl (lv_room (Nat.le_of_ble_eq_true rfl)) dX7_capacity_2 ⟨(show 0 + 1 ≤ 2 by omega), (show 0 + 6 ≤ 12 by omega)⟩) hS (fun _ _ h => h.elim) (fun _ h => wF_mono hS.1 _ h) (fun _ _ h => h.elim) (fun E9 ce9 q9 u9 t9 H locs ht hvm hpx hE hz hk hS1 hce hcv hcl => ?_) (fun u9 ra9 t9 H locs ht hvm hw hB hz hk hS1 => ?_)
  · skip
    refine vx_widen (k := 2) (n := 12) (by omega) (by omega) ?_
    exact vx_out (fun x h => (hexc x h).elim) hlocks hce hcv hcl (fun t9 ht9 hvm9 => ⟨(), (by omega), hE, vF_R ht9 (Nat.le_trans hS.1 hz) (fun x h9 => (hk x (Nat.lt_of_lt_of_le h9 hS.1) (fun h => h)).trans (hk0 x h9))⟩) hS1.2.2 (Nat.le_refl _) (Nat.le_refl _)
  · skip
    have hP := hP.kept (fun k x hk9 => hk x.1 ((hP k x hk9).lt) (fun h => h))
    have hk0 : ∀ x : Nat, x < s.heap.size → H[x]? = s.heap[x]? := fun x h9 => (hk x (Nat.lt_of_lt_of_le h9 hS.1) (fun h => h)).trans (hk0 x h9)
    have hS := hS1
    subst hB
    obtain ⟨ic2, eic2⟩ : ∃ z : Nat, z = u9 := ⟨u9, rfl⟩
    rw [← eic2] at hw ⊢
    have hi2 := hw
    have oC_a := oC ic2 (by omega); unfold okC at oC_a
    refine lv_astore_n (lv' := [(3, .ref (a (3 + ic2))), (0, .ref (a 0)), (1, .int (zI (n0))), (2, .int (zI (d)))]) hx hb dX7_capacity_5 rfl hl (by decide) rfl (fun ls hl => ?_)
    refine lv_iload_n hx hb dX7_capacity_6 rfl (lv_at hl 3 rfl) ?_
    refine lv_bipush (v := zI 10) hx hb dX7_capacity_7 (by decide +kernel) ?_
    refine lv_aload_n hx hb dX7_capacity_9 rfl (lv_at hl 0 rfl) ?_
    refine va_get (D := D) (ci := 2) (v := .int (zI (σ (3 + ic2) 1))) (C := RX0) (T := TX0) (N := 12) hx hb hts inX0 hown hK hP (3 + ic2) (wg_C (i := ic2) (by first | assumption | omega)) rfl 1 (by decide) k66 (fun _ h9 => h9) rfl dX7_capacity_10 ?_
    refine va_calli (va_runS (As := [.int (zI (d)), .int (zI (10)), .int (zI (σ (3 + ic2) 1))]) (rest := []) ⟨hx, hb, hml, hown, hts⟩ (c_X7_isOutside l (d) (by omega) (10) (by omega) (σ (3 + ic2) 1) (by omega)) (va_cwS 3 hts gX7_capacity_X7_isOutside rfl rfl rfl (by decide +kernel) ⟨Nat.le_of_ble_eq_true rfl, Nat.le_of_ble_eq_true rfl⟩) ⟨fun _ _ _ _ h => h, fun _ _ _ => ⟨rfl, trivial⟩⟩ rfl rfl hl.1 rfl (lv_room (Nat.le_of_ble_eq_true rfl)) dX7_capacity_13 ⟨(show 0 + 1 + 0 ≤ 2 by omega), (show 0 + 6 + 0 ≤ 12 by omega)⟩) hS (fun _ _ h => h.elim) (fun _ h => h.elim) (fun rv13 u9 t9 H locs ht hvm hw hB hz hk hS1 => ?_)
    have hP := hP.kept (fun k x hk9 => hk x.1 ((hP k x hk9).lt) (fun h => h))
    have hk0 : ∀ x : Nat, x < s.heap.size → H[x]? = s.heap[x]? := fun x h9 => (hk x (Nat.lt_of_lt_of_le h9 hS.1) (fun h => h)).trans (hk0 x h9)
    have hS := hS1
    rcases hw with ⟨rfl, bd13⟩ | ⟨rfl, bd13⟩
    · skip
      refine z_if_eq (tgt := 30) hx hb dX7_capacity_16 (by decide) (by decide) (fun cd16 => absurd cd16 (by decide)) (fun _ => ?_)
      obtain ⟨sa9, hsa9⟩ := hstr (311, "radius is 10 to reach") (by decide)
      exact vx_throwSW (names := ["java/lang/RuntimeException", "java/lang/Exception"]) (sa := sa9) hx hb hlT hown (by decide +kernel) (by decide +kernel) (hts (.classLink RX7 50 "java/lang/IllegalArgumentException") (by decide +kernel)) (hts (.initialized "java/lang/IllegalArgumentException") (by decide +kernel)) hsa9 (vx_hat (fun w h => hts w (vt54_X7_capacity w h)) vf54 hnest.2.2.1.bad) vg54 hU0 hN0 hS (by rw [hml]; exact hl.1) dX7_capacity_19 dX7_capacity_22 dX7_capacity_23 dX7_capacity_26 dX7_capacity_29 (fun x h => (hexc x h).elim) (Nat.le_of_ble_eq_true rfl) (Nat.le_of_ble_eq_true rfl) (show 0 + 1 + 0 + 1 ≤ 2 by omega) (show 0 + 6 + 0 + 6 ≤ 12 by omega) hlocks (fun t9 hvm9 hz9 hk9 => ⟨(), (by rw [show n0.toNat = ic2 by omega]; omega), okE_A, Nat.le_trans hS.1 hz9, fun x h9 _ => (hk9 x (Nat.lt_of_lt_of_le h9 hS.1)).trans (hk0 x h9)⟩) hS.2.2 (by omega) (by omega)
    · skip
      refine z_if_eq (tgt := 30) hx hb dX7_capacity_16 (by decide) (by decide) (fun _ => ?_) (fun cd16 => absurd cd16 (by decide))
      refine lv_aload_n hx hb dX7_capacity_30 rfl (lv_at hl 0 rfl) ?_
      refine lv_iload_n hx hb dX7_capacity_31 rfl (lv_at hl 3 rfl) ?_
      refine lv_aload_n hx hb dX7_capacity_32 rfl (lv_at hl 1 rfl) ?_
      refine va_get (D := D) (ci := 9) (v := .ref (a 1)) (C := RX7) (T := TX7) (N := 9) hx hb hts inX7 hown hK hP 0 wg_S rfl 0 (by decide) k10 (fun _ h9 => h9) rfl dX7_capacity_33 ?_
      refine va_get (D := D) (ci := 7) (v := .int (zI (σ 1 5))) (C := RX5) (T := TX5) (N := 7) hx hb hts inX5 hown hK hP 1 wg_W rfl 5 (by decide) k104 (fun _ h9 => h9) rfl dX7_capacity_36 ?_
      refine va_calli (va_runV (As := [.int (zI (d)), .int (zI (σ 1 5))]) (rest := []) ⟨hx, hb, hml, hown, hts⟩ (c_X0_capacityAt l D cy a q σ H.size ic2 (by first | assumption | omega) (d) (by omega) (σ 1 5) (by omega) (by first | assumption | omega) (by first | assumption | omega) (by omega) (by omega)) (cwV 2 hts gX7_capacity_X0_capacityAt rfl rfl rfl (by decide +kernel) ⟨Nat.le_of_ble_eq_true rfl, Nat.le_of_ble_eq_true rfl⟩) ⟨Wd_blind, va_recv hK hP (ci := 2) (q0 := (3 + ic2)) rfl (wg_C (i := ic2) (by first | assumption | omega)), fun U hU hW => ⟨rfl, by rw [hU], Wd_mk (wP_left hP) hE0 hS hU hW⟩⟩ rfl rfl hl.1 rfl (lv_room (Nat.le_of_ble_eq_true rfl)) dX7_capacity_39 ⟨(show 0 + 1 + 0 + 0 ≤ 2 by omega), (show 0 + 6 + 0 + 0 ≤ 12 by omega)⟩) hS (fun _ _ h => h.elim) (fun _ h => wF_mono hS.1 _ h) (fun rv39 u9 t9 H locs ht hvm hw hB hz hk hS1 => ?_)
      have hP := hP.kept (fun k x hk9 => hk x.1 ((hP k x hk9).lt) (fun h => h))
      have hk0 : ∀ x : Nat, x < s.heap.size → H[x]? = s.heap[x]? := fun x h9 => (hk x (Nat.lt_of_lt_of_le h9 hS.1) (fun h => h)).trans (hk0 x h9)
      have hS := hS1
      obtain rfl := hw
      refine vx_ret ?_
      refine W.widen (k := 2) (n := 12) (by omega) (by omega) ?_
      exact W.iret (v := zI (cpF (σ (3 + ic2)) d (σ 1 5))) hx hb hr (fun t9 ht hW => ⟨⟨_, (), rfl, ⟨_, rfl, ⟨by rw [show n0.toNat = ic2 by omega], by omega, by omega, by omega, by rw [show n0.toNat = ic2 by omega]; omega⟩⟩, trivial⟩, vF_R ht hS.1 hk0⟩) hS.2.2 dX7_capacity_42

set_option maxHeartbeats 4000000 in
set_option maxRecDepth 100000 in
/-- L_isLifted -/
theorem c_L_isLifted (l : Launch) (hlT : l.stackTraces = false) (D : va_G) (cy : Nat → ClassId) (a q : Nat → Nat) (σ : Nat → Nat → Int) (sz : Nat) (nn : Int) (hnn : rg nn) (v : Int) (hv : rg v) (t0 : Int) (hO : okA t0 (σ 1 5) q σ) (ht9 : t0 < 1000000) : vx_Met l yL_isLifted wsL_isLifted ({ frames := 15, cells := 70, slots := 420, locals := 900 }) (va_Pc [.ref (a 0), .int (zI (nn)), .int (zI (v))] (fun U => U.heap.size = sz ∧ Wd D cy a q σ U)) (va_Qi (fun (r : Int32) (u : ((Nat → Nat) × (Nat → Nat → Int))) => ∃ z : Int, r = zI z ∧ (z = 1 ∧ okA (t0 + 1) (u.2 1 5) u.1 u.2 ∧ Ev σ u.2)) (fun (u : ((Nat → Nat) × (Nat → Nat → Int))) t => Wd D cy a u.1 u.2 t) (wF a sz)) (vx_X (fun (_ : Unit) => True) (fun E _ _ => okE E) (fun _ => False)) 70 420 (wF a sz) := by
  refine vx_ofW (cc := cL_isLifted) (maxL := 9) (ret := (some .boolean)) (by decide) rfl ?_
  intro p e s m args below meth c s₁ B hml hexc hpc0
  obtain ⟨rfl, hsz, hW0⟩ := hpc0
  have hx := B.exec
  have hb := B.bytes
  have hr := B.returns
  have hts := atoms_spec (ws := wsL_isLifted) B.pre
  have hown : s.vm.findClass RL = some m.cls := findClass_of_methodNamed B.named
  have hlocks := B.notSynchronized
  subst hsz
  obtain ⟨hP00, hE0⟩ := id hW0
  obtain ⟨hK, hinj, hU0, hN0, hstr, hnest⟩ := id hE0
  have hP : va_P D vwCl (wld cy a q σ ++ []) s.heap := by rw [List.append_nil]; exact hP00
  have hD : va_D (wF a s.heap.size) (wld cy a q σ ++ []) := wD_of hinj
  have hA : ∀ x : Nat, s.heap.size ≤ x → wF a s.heap.size x := fun _ h => Or.inr h
  have hS : va_S (wF a s.heap.size) s.heap s.heap [] := va_S.rf
  have hk0 : ∀ x : Nat, x < s.heap.size → s.heap[x]? = s.heap[x]? := fun _ _ => rfl
  have hl := lv_entry ([.ref (a 0), .int (zI (nn)), .int (zI (v))]) (n := 9) (Nat.le_of_ble_eq_true rfl)
  rw [lg_entry_eq]
  generalize (lg_sl ([.ref (a 0), .int (zI (nn)), .int (zI (v))]) ++ List.replicate (9 - (lg_sl ([.ref (a 0), .int (zI (nn)), .int (zI (v))])).length) Slot.unset).toArray = ls at hl ⊢
  have hl : lv_has ls 9 [(0, .ref (a 0)), (1, .int (zI (nn))), (2, .int (zI (v)))] := hl
  obtain ⟨oS, oW, oC, oZ, oM, oL, oP, oQ, oH⟩ := id hO
  unfold okS at oS; unfold okW at oW; unfold okL at oL
  have hs3 := shI_rg v 3
  have hs4 := shI_rg v 4
  have hs5 := shI_rg v 5
  have hs6 := shI_rg v 6
  refine lv_iconst (v := zI 1) hx hb dL_isLifted_0 rfl ?_
  refine lv_iload_n hx hb dL_isLifted_1 rfl (lv_at hl 2 rfl) ?_
  refine lv_iconst (v := zI 3) hx hb dL_isLifted_2 rfl ?_
  refine z_ishr hx hb dL_isLifted_3 ?_
  refine lv_bipush (v := zI 90) hx hb dL_isLifted_4 (by decide +kernel) ?_
  refine va_calli (va_runS (As := [.int (zI (shI v 3)), .int (zI (90))]) (rest := [.int (zI (1))]) ⟨hx, hb, hml, hown, hts⟩ (c_L_below l (shI v 3) (by omega) (90) (by omega) (by first | assumption | omega)) (va_cwS 2 hts gL_isLifted_L_below rfl rfl rfl (by decide +kernel) ⟨Nat.le_of_ble_eq_true rfl, Nat.le_of_ble_eq_true rfl⟩) ⟨fun _ _ _ _ h => h, fun _ _ _ => ⟨rfl, trivial⟩⟩ rfl rfl hl.1 rfl (lv_room (Nat.le_of_ble_eq_true rfl)) dL_isLifted_6 ⟨(show 0 + 0 ≤ 70 by omega), (show 0 + 0 ≤ 420 by omega)⟩) hS (fun _ _ h => h.elim) (fun _ h => h.elim) (fun rv6 u9 t9 H locs ht hvm hw hB hz hk hS1 => ?_)
  have hP := hP.kept (fun k x hk9 => hk x.1 ((hP k x hk9).lt) (fun h => h))
  have hk0 : ∀ x : Nat, x < s.heap.size → H[x]? = s.heap[x]? := fun x h9 => (hk x (Nat.lt_of_lt_of_le h9 hS.1) (fun h => h)).trans (hk0 x h9)
  have hS := hS1
  obtain rfl := hw
  refine z_iadd hx hb dL_isLifted_9 ?_
  refine lv_istore_n (lv' := [(3, .int (zI (1 + ((shI v 3) % 2147483648 % (90 : Int))))), (0, .ref (a 0)), (1, .int (zI (nn))), (2, .int (zI (v)))]) hx hb dL_isLifted_10 rfl hl (by decide) rfl (fun ls hl => ?_)
  obtain ⟨ld, eld⟩ : ∃ z : Int, z = 1 + ((shI v 3) % 2147483648 % (90 : Int)) := ⟨_, rfl⟩
  rw [← eld] at hl
  have hld : 1 ≤ ld ∧ ld ≤ 90 := by rw [eld]; omega
  refine lv_bipush (v := zI 10) hx hb dL_isLifted_11 (by decide +kernel) ?_
  refine lv_iload_n hx hb dL_isLifted_13 rfl (lv_at hl 3 rfl) ?_
  refine lv_iconst (v := zI 4) hx hb dL_isLifted_14 rfl ?_
  refine z_ishr hx hb dL_isLifted_15 ?_
  refine lv_bipush (v := zI 25) hx hb dL_isLifted_16 (by decide +kernel) ?_
  refine va_calli (va_runS (As := [.int (zI (shI v 4)), .int (zI (25))]) (rest := [.int (zI (10))]) ⟨hx, hb, hml, hown, hts⟩ (c_L_below l (shI v 4) (by omega) (25) (by omega) (by first | assumption | omega)) (va_cwS 2 hts gL_isLifted_L_below rfl rfl rfl (by decide +kernel) ⟨Nat.le_of_ble_eq_true rfl, Nat.le_of_ble_eq_true rfl⟩) ⟨fun _ _ _ _ h => h, fun _ _ _ => ⟨rfl, trivial⟩⟩ rfl rfl hl.1 rfl (lv_room (Nat.le_of_ble_eq_true rfl)) dL_isLifted_18 ⟨(show 0 + 0 + 0 ≤ 70 by omega), (show 0 + 0 + 0 ≤ 420 by omega)⟩) hS (fun _ _ h => h.elim) (fun _ h => h.elim) (fun rv18 u9 t9 H locs ht hvm hw hB hz hk hS1 => ?_)
  have hP := hP.kept (fun k x hk9 => hk x.1 ((hP k x hk9).lt) (fun h => h))
  have hk0 : ∀ x : Nat, x < s.heap.size → H[x]? = s.heap[x]? := fun x h9 => (hk x (Nat.lt_of_lt_of_le h9 hS.1) (fun h => h)).trans (hk0 x h9)
  have hS := hS1
  obtain rfl := hw
  refine z_iadd hx hb dL_isLifted_21 ?_
  refine lv_istore (lv' := [(4, .int (zI (10 + ((shI v 4) % 2147483648 % (25 : Int))))), (3, .int (zI (ld))), (0, .ref (a 0)), (1, .int (zI (nn))), (2, .int (zI (v)))]) hx hb dL_isLifted_22 hl (by decide) rfl (fun ls hl => ?_)
  obtain ⟨fr, efr⟩ : ∃ z : Int, z = 10 + ((shI v 4) % 2147483648 % (25 : Int)) := ⟨_, rfl⟩
  rw [← efr] at hl
  have hfr : 10 ≤ fr ∧ fr ≤ 34 := by rw [efr]; omega
  refine lv_bipush (v := zI 10) hx hb dL_isLifted_24 (by decide +kernel) ?_
  refine lv_iload_n hx hb dL_isLifted_26 rfl (lv_at hl 4 rfl) ?_
  refine lv_bipush (v := zI 6) hx hb dL_isLifted_27 (by decide +kernel) ?_
  refine z_ishr hx hb dL_isLifted_29 ?_
  refine lv_bipush (v := zI 25) hx hb dL_isLifted_30 (by decide +kernel) ?_
  refine va_calli (va_runS (As := [.int (zI (shI v 6)), .int (zI (25))]) (rest := [.int (zI (10))]) ⟨hx, hb, hml, hown, hts⟩ (c_L_below l (shI v 6) (by omega) (25) (by omega) (by first | assumption | omega)) (va_cwS 2 hts gL_isLifted_L_below rfl rfl rfl (by decide +kernel) ⟨Nat.le_of_ble_eq_true rfl, Nat.le_of_ble_eq_true rfl⟩) ⟨fun _ _ _ _ h => h, fun _ _ _ => ⟨rfl, trivial⟩⟩ rfl rfl hl.1 rfl (lv_room (Nat.le_of_ble_eq_true rfl)) dL_isLifted_32 ⟨(show 0 + 0 + 0 + 0 ≤ 70 by omega), (show 0 + 0 + 0 + 0 ≤ 420 by omega)⟩) hS (fun _ _ h => h.elim) (fun _ h => h.elim) (fun rv32 u9 t9 H locs ht hvm hw hB hz hk hS1 => ?_)
  have hP := hP.kept (fun k x hk9 => hk x.1 ((hP k x hk9).lt) (fun h => h))
  have hk0 : ∀ x : Nat, x < s.heap.size → H[x]? = s.heap[x]? := fun x h9 => (hk x (Nat.lt_of_lt_of_le h9 hS.1) (fun h => h)).trans (hk0 x h9)
  have hS := hS1
  obtain rfl := hw
  refine z_iadd hx hb dL_isLifted_35 ?_
  refine lv_istore (lv' := [(5, .int (zI (10 + ((shI v 6) % 2147483648 % (25 : Int))))), (4, .int (zI (fr))), (3, .int (zI (ld))), (0, .ref (a 0)), (1, .int (zI (nn))), (2, .int (zI (v)))]) hx hb dL_isLifted_36 hl (by decide) rfl (fun ls hl => ?_)
  obtain ⟨to, eto⟩ : ∃ z : Int, z = 10 + ((shI v 6) % 2147483648 % (25 : Int)) := ⟨_, rfl⟩
  rw [← eto] at hl
  have hto : 10 ≤ to ∧ to ≤ 34 := by rw [eto]; omega
  refine lv_aload_n hx hb dL_isLifted_38 rfl (lv_at hl 3 rfl) ?_
  refine lv_iload_n hx hb dL_isLifted_39 rfl (lv_at hl 4 rfl) ?_
  refine lv_iload hx hb dL_isLifted_40 (lv_at hl 0 rfl) ?_
  refine vx_calli (vx_runV (As := [.int (zI (nn)), .int (zI (to))]) (rest := []) ⟨hx, hb, hml, hown, hts⟩ (c_X7_capacity2 l hlT D cy a q σ H.size (nn) (by omega) (to) (by omega) _ _ hO) (cwV 2 hts gL_isLifted_X7_capacity rfl rfl rfl (by decide +kernel) ⟨Nat.le_of_ble_eq_true rfl, Nat.le_of_ble_eq_true rfl⟩) ⟨Wd_blind, va_recv hK hP (ci := 9) (q0 := 0) rfl wg_S, fun U hU hW => ⟨rfl, by rw [hU], Wd_mk (wP_left hP) hE0 hS hU hW⟩⟩ rfl rfl hl.1 rfl (lv_room (Nat.le_of_ble_eq_true rfl)) dL_isLifted_42 ⟨(show 0 + 0 + 0 + 0 + 2 ≤ 70 by omega), (show 0 + 0 + 0 + 0 + 12 ≤ 420 by omega)⟩) hS (fun _ _ h => h.elim) (fun _ h => wF_mono hS.1 _ h) (fun _ _ h => h.elim) (fun E9 ce9 q9 u9 t9 H locs ht hvm hpx hE hz hk hS1 hce hcv hcl => ?_) (fun rv42 u9 t9 H locs ht hvm hw hB hz hk hS1 => ?_)
  · skip
    refine vx_widen (k := 70) (n := 420) (by omega) (by omega) ?_
    exact vx_out (fun x h => (hexc x h).elim) hlocks hce hcv hcl (fun t9 ht9 hvm9 => ⟨(), trivial, hE, vF_R ht9 (Nat.le_trans hS.1 hz) (fun x h9 => (hk x (Nat.lt_of_lt_of_le h9 hS.1) (fun h => h)).trans (hk0 x h9))⟩) hS1.2.2 (Nat.le_refl _) (Nat.le_refl _)
  · skip
    have hP := hP.kept (fun k x hk9 => hk x.1 ((hP k x hk9).lt) (fun h => h))
    have hk0 : ∀ x : Nat, x < s.heap.size → H[x]? = s.heap[x]? := fun x h9 => (hk x (Nat.lt_of_lt_of_le h9 hS.1) (fun h => h)).trans (hk0 x h9)
    have hS := hS1
    obtain ⟨zc42, rfl, hz42⟩ := hw
    obtain ⟨e42, n42a, n42b, n42c, n42d⟩ := hz42
    obtain ⟨ci, hci⟩ : ∃ i : Nat, nn = (i : Int) := ⟨nn.toNat, by omega⟩
    have oCi := oC ci (by omega); unfold okC at oCi
    have hnt : nn.toNat = ci := by omega
    rw [hnt] at e42 n42d
    have cb42 := cpF_b oCi.2.2.2.2.1 to (σ 1 5) (by omega) (by omega)
    refine lv_istore (lv' := [(6, .int (zI (zc42))), (5, .int (zI (to))), (4, .int (zI (fr))), (3, .int (zI (ld))), (0, .ref (a 0)), (1, .int (zI (nn))), (2, .int (zI (v)))]) hx hb dL_isLifted_45 hl (by decide) rfl (fun ls hl => ?_)
    refine lv_iload hx hb dL_isLifted_47 (lv_at hl 2 rfl) ?_
    refine lv_iload hx hb dL_isLifted_49 (lv_at hl 1 rfl) ?_
    refine va_mmin hx hb (by rw [hml]; exact hl.1.symm) hown (hts (.methodLink RL 91 Lib.Math.min.name) (by decide +kernel)) (hts (.static Lib.Math.min.name) (by decide +kernel)) (hts (.initialized "java/lang/Math") (by decide +kernel)) (hts (.code Lib.Math.min.name Lib.Math.min.code 2 (some .int)) (by decide +kernel)) (Nat.le_of_ble_eq_true rfl) (Nat.le_of_ble_eq_true rfl) (show 0 + 0 + 0 + 0 + 2 ≤ 70 by omega) (show 0 + 0 + 0 + 0 + 12 ≤ 420 by omega) dL_isLifted_51 ?_
    rw [zmin (x := fr) (y := to) (by omega) (by omega)]
    have hm0 : mnI fr to ≤ fr ∧ mnI fr to ≤ to ∧ (mnI fr to = fr ∨ mnI fr to = to) := by unfold mnI; split <;> omega
    have hmx : fr ≤ mxI fr to ∧ to ≤ mxI fr to ∧ (mxI fr to = fr ∨ mxI fr to = to) := by unfold mxI; split <;> omega
    refine lv_istore (lv' := [(7, .int (zI (mnI fr to))), (6, .int (zI (zc42))), (5, .int (zI (to))), (4, .int (zI (fr))), (3, .int (zI (ld))), (0, .ref (a 0)), (1, .int (zI (nn))), (2, .int (zI (v)))]) hx hb dL_isLifted_54 hl (by decide) rfl (fun ls hl => ?_)
    have loop56 : ∀ (n : Nat) (k : Nat) (r9 : Int) (le9 : Int) (H : Heap) (locs : List Loc) (ls : Array Slot), 26 - k < n → (r9 = mnI fr to + k ∧ r9 ≤ mxI fr to + 1) → (0 ≤ le9 ∧ le9 ≤ 200) → (∀ d, mnI fr to ≤ d → d < r9 → le9 ≤ cpF (σ (3 + ci)) d (σ 1 5)) → (∃ d, bw fr to d ∧ le9 = cpF (σ (3 + ci)) d (σ 1 5)) → va_P D vwCl (wld cy a q σ ++ []) H → va_S (wF a s.heap.size) s.heap H locs → (∀ x : Nat, x < s.heap.size → H[x]? = s.heap[x]?) → lv_has ls 9 [(0, .ref (a 0)), (1, .int (zI (nn))), (2, .int (zI (v))), (3, .int (zI (ld))), (4, .int (zI (fr))), (5, .int (zI (to))), (6, .int (zI (le9))), (7, .int (zI (r9)))] → W p l e (headSpec wsL_isLifted ({ frames := 15, cells := 70, slots := 420, locals := 900 })).room s m ([.ref (a 0), .int (zI (nn)), .int (zI (v))] : List Value).toArray below meth c H locs (2 + k * 2) (12 + k * 12) (vx_MQ below (va_Qi (fun (r : Int32) (u : ((Nat → Nat) × (Nat → Nat → Int))) => ∃ z : Int, r = zI z ∧ (z = 1 ∧ okA (t0 + 1) (u.2 1 5) u.1 u.2 ∧ Ev σ u.2)) (fun (u : ((Nat → Nat) × (Nat → Nat → Int))) t => Wd D cy a u.1 u.2 t) (wF a s.heap.size)) (vx_X (fun (_ : Unit) => True) (fun E _ _ => okE E) (fun _ => False)) ([.ref (a 0), .int (zI (nn)), .int (zI (v))] : List Value).toArray s 70 420 (wF a s.heap.size)) (F0 m 56 ls []) := by
      intro n
      induction n with
      | zero => intro k r9 le9 H locs ls h0; exact absurd h0 (Nat.not_lt_zero _)
      | succ n ih56 =>
        intro k r9 le9 H locs ls hms hr9 hle1 hle2 hle3 hP hS hk0 hl
        refine lv_iload hx hb dL_isLifted_56 (lv_at hl 7 rfl) ?_
        refine lv_iload hx hb dL_isLifted_58 (lv_at hl 4 rfl) ?_
        refine lv_iload hx hb dL_isLifted_60 (lv_at hl 5 rfl) ?_
        refine va_mmax hx hb (by rw [hml]; exact hl.1.symm) hown (hts (.methodLink RL 96 Lib.Math.max.name) (by decide +kernel)) (hts (.static Lib.Math.max.name) (by decide +kernel)) (hts (.initialized "java/lang/Math") (by decide +kernel)) (hts (.code Lib.Math.max.name Lib.Math.max.code 2 (some .int)) (by decide +kernel)) (Nat.le_of_ble_eq_true rfl) (Nat.le_of_ble_eq_true rfl) (show 2 + k * 2 ≤ 70 by omega) (show 12 + k * 12 ≤ 420 by omega) dL_isLifted_62 ?_
        rw [zmax (x := fr) (y := to) (by omega) (by omega)]
        refine z_icmp_gt (tgt := 88) hx hb dL_isLifted_65 (by decide) (by omega) (by omega) (fun cd65 => ?_) (fun cd65 => ?_)
        · skip
          refine lv_aload_n hx hb dL_isLifted_88 rfl (lv_at hl 0 rfl) ?_
          refine lv_bipush (v := zI 12) hx hb dL_isLifted_89 (by decide +kernel) ?_
          refine vx_calli (vx_runV (As := [.int (zI (12))]) (rest := []) ⟨hx, hb, hml, hown, hts⟩ (c_X7_site l hlT D cy a q σ H.size (12) (by omega) _ _ hO) (cwV 1 hts gL_isLifted_X7_site rfl rfl rfl (by decide +kernel) ⟨Nat.le_of_ble_eq_true rfl, Nat.le_of_ble_eq_true rfl⟩) ⟨Wd_blind, va_recv hK hP (ci := 9) (q0 := 0) rfl wg_S, fun U hU hW => ⟨rfl, by rw [hU], Wd_mk (wP_left hP) hE0 hS hU hW⟩⟩ rfl rfl hl.1 rfl (lv_room (Nat.le_of_ble_eq_true rfl)) dL_isLifted_91 ⟨(show 2 + k * 2 + 1 ≤ 70 by omega), (show 12 + k * 12 + 6 ≤ 420 by omega)⟩) hS (fun _ _ h => h.elim) (fun _ h => wF_mono hS.1 _ h) (fun _ _ h => h.elim) (fun E9 ce9 q9 u9 t9 H locs ht hvm hpx hE hz hk hS1 hce hcv hcl => ?_) (fun rv91 u9 t9 H locs ht hvm hw hB hz hk hS1 => ?_)
          · skip
            refine vx_widen (k := 70) (n := 420) (by omega) (by omega) ?_
            exact vx_out (fun x h => (hexc x h).elim) hlocks hce hcv hcl (fun t9 ht9 hvm9 => ⟨(), trivial, hE, vF_R ht9 (Nat.le_trans hS.1 hz) (fun x h9 => (hk x (Nat.lt_of_lt_of_le h9 hS.1) (fun h => h)).trans (hk0 x h9))⟩) hS1.2.2 (Nat.le_refl _) (Nat.le_refl _)
          · skip
            have hP := hP.kept (fun k x hk9 => hk x.1 ((hP k x hk9).lt) (fun h => h))
            have hk0 : ∀ x : Nat, x < s.heap.size → H[x]? = s.heap[x]? := fun x h9 => (hk x (Nat.lt_of_lt_of_le h9 hS.1) (fun h => h)).trans (hk0 x h9)
            have hS := hS1
            obtain rfl := hw
            rw [show siF q σ (12 : Int) = σ 20 1 from rfl]
            refine lv_istore (lv' := [(7, .int (zI (σ 20 1))), (0, .ref (a 0)), (1, .int (zI (nn))), (2, .int (zI (v))), (3, .int (zI (ld))), (4, .int (zI (fr))), (5, .int (zI (to))), (6, .int (zI (le9)))]) hx hb dL_isLifted_94 hl (by decide) rfl (fun ls hl => ?_)
            refine lv_aload_n hx hb dL_isLifted_96 rfl (lv_at hl 1 rfl) ?_
            refine lv_iload_n hx hb dL_isLifted_97 rfl (lv_at hl 2 rfl) ?_
            refine lv_iload_n hx hb dL_isLifted_98 rfl (lv_at hl 4 rfl) ?_
            refine lv_iload hx hb dL_isLifted_99 (lv_at hl 5 rfl) ?_
            refine lv_iload hx hb dL_isLifted_101 (lv_at hl 6 rfl) ?_
            refine lv_iload_n hx hb dL_isLifted_103 rfl (lv_at hl 3 rfl) ?_
            refine lv_iconst (v := zI 5) hx hb dL_isLifted_104 rfl ?_
            refine z_ishr hx hb dL_isLifted_105 ?_
            refine lv_bipush (v := zI 25) hx hb dL_isLifted_106 (by decide +kernel) ?_
            refine va_calli (va_runS (As := [.int (zI (shI v 5)), .int (zI (25))]) (rest := [.int (zI (to)), .int (zI (fr)), .int (zI (ld)), .int (zI (nn)), .ref (a 0)]) ⟨hx, hb, hml, hown, hts⟩ (c_L_below l (shI v 5) (by omega) (25) (by omega) (by first | assumption | omega)) (va_cwS 2 hts gL_isLifted_L_below rfl rfl rfl (by decide +kernel) ⟨Nat.le_of_ble_eq_true rfl, Nat.le_of_ble_eq_true rfl⟩) ⟨fun _ _ _ _ h => h, fun _ _ _ => ⟨rfl, trivial⟩⟩ rfl rfl hl.1 rfl (lv_room (Nat.le_of_ble_eq_true rfl)) dL_isLifted_108 ⟨(show 2 + k * 2 + 1 + 0 ≤ 70 by omega), (show 12 + k * 12 + 6 + 0 ≤ 420 by omega)⟩) hS (fun _ _ h => h.elim) (fun _ h => h.elim) (fun rv108 u9 t9 H locs ht hvm hw hB hz hk hS1 => ?_)
            have hP := hP.kept (fun k x hk9 => hk x.1 ((hP k x hk9).lt) (fun h => h))
            have hk0 : ∀ x : Nat, x < s.heap.size → H[x]? = s.heap[x]? := fun x h9 => (hk x (Nat.lt_of_lt_of_le h9 hS.1) (fun h => h)).trans (hk0 x h9)
            have hS := hS1
            obtain rfl := hw
            obtain ⟨an, ean⟩ : ∃ z : Int, z = (shI v 5) % 2147483648 % (25 : Int) := ⟨_, rfl⟩
            rw [← ean]
            have han : 0 ≤ an ∧ an ≤ 24 := by rw [ean]; omega
            refine vx_calli (vx_runV (As := [.int (zI (nn)), .int (zI (ld)), .int (zI (fr)), .int (zI (to)), .int (zI (an))]) (rest := []) ⟨hx, hb, hml, hown, hts⟩ (c_X7_lift l hlT D cy a q σ H.size (nn) (by omega) (ld) (by omega) (fr) (by omega) (to) (by omega) (an) (by omega) _ hO ht9) (cwV 5 hts gL_isLifted_X7_lift rfl rfl rfl (by decide +kernel) ⟨Nat.le_of_ble_eq_true rfl, Nat.le_of_ble_eq_true rfl⟩) ⟨Wd_blind, va_recv hK hP (ci := 9) (q0 := 0) rfl wg_S, fun U hU hW => ⟨rfl, by rw [hU], Wd_mk (wP_left hP) hE0 hS hU hW⟩⟩ rfl rfl hl.1 rfl (lv_room (Nat.le_of_ble_eq_true rfl)) dL_isLifted_111 ⟨(show 2 + k * 2 + 1 + 0 + 2 ≤ 70 by omega), (show 12 + k * 12 + 6 + 0 + 12 ≤ 420 by omega)⟩) hS (fun _ _ h => wF_mono hS.1 _ h) (fun _ h => wF_mono hS.1 _ h) (fun _ _ h => h.elim) (fun E9 ce9 q9 u9 t9 H locs ht hvm hpx hE hz hk hS1 hce hcv hcl => ?_) (fun rv111 u9 t9 H locs ht hvm hw hB hz hk hS1 => ?_)
            · skip
              refine vx_widen (k := 70) (n := 420) (by omega) (by omega) ?_
              exact vx_out (fun x h => (hexc x h).elim) hlocks hce hcv hcl (fun t9 ht9 hvm9 => ⟨(), trivial, hE, vF_R ht9 (Nat.le_trans hS.1 hz) (fun x h9 => (hk x (Nat.lt_of_lt_of_le h9 hS.1) (fun h => h)).trans (hk0 x h9))⟩) hS1.2.2 (Nat.le_refl _) (Nat.le_refl _)
            · skip
              obtain ⟨qc111, σc111⟩ := u9
              have hB1 : va_P D vwCl (wld cy a qc111 σc111) t9.heap := hB.1
              rw [ht] at hB1
              obtain ⟨hP, hD⟩ := wd_join hP hD hk hB1
              try dsimp only at hw
              have hS := hS1
              obtain ⟨zc111, rfl, hz111⟩ := hw
              obtain ⟨hq9, hO2, hE2, hzt, hpg, h1s, hn1, hn2, hl1, hf1, hf2, hto1, hto2⟩ := hz111
              obtain rfl : q = qc111 := hq9.symm
              rw [hnt] at hzt hpg hf2 hto2
              have htb := tryF_b σ ci ld fr to an (by omega)
              rw [← hzt] at htb
              have hlast : zc111 = 0 → (tryF σ ci ld fr to an).2.2 = le9 ∧ ld ≤ le9 := by
                intro h0
                rcases htb with h | h | h
                · obtain ⟨-, -, h1, d1, hd1, e1⟩ := h
                  obtain ⟨d2, hd2, e2⟩ := hle3
                  have a1 := (h1 d2 hd2).1
                  have a2 := (h1 d2 hd2).2
                  have a3 := hle2 d1 (by unfold bw at hd1; omega) (by unfold bw at hd1; omega)
                  omega
                · omega
                · omega
              have hneg : zc111 ≠ 0 → (tryF σ ci ld fr to an).2.2 = -1 := by
                intro h0
                rcases htb with h | h | h <;> omega
              have hvb : 0 ≤ zc111 ∧ zc111 ≤ 5 := by rcases htb with h | h | h <;> omega
              obtain ⟨oS2, oW2, oC2, oZ2, oM2, oL2, oP2, oQ2, oH2⟩ := id hO2
              unfold okL at oL2
              refine lv_istore (lv' := [(8, .int (zI (zc111))), (7, .int (zI (σ 20 1))), (0, .ref (a 0)), (1, .int (zI (nn))), (2, .int (zI (v))), (3, .int (zI (ld))), (4, .int (zI (fr))), (5, .int (zI (to))), (6, .int (zI (le9)))]) hx hb dL_isLifted_114 hl (by decide) rfl (fun ls hl => ?_)
              refine lv_iload hx hb dL_isLifted_116 (lv_at hl 0 rfl) ?_
              refine z_if_ne (tgt := 129) hx hb dL_isLifted_118 (by decide) (by omega) (fun cd118 => ?_) (fun cd118 => ?_)
              · skip
                refine lv_iload hx hb dL_isLifted_129 (lv_at hl 1 rfl) ?_
                refine lv_bipush (v := zI 40) hx hb dL_isLifted_131 (by decide +kernel) ?_
                refine z_icmp_eq (tgt := 215) hx hb dL_isLifted_133 (by decide) (by omega) (by omega) (fun cd133 => ?_) (fun cd133 => ?_)
                · skip
                  refine lv_iconst (v := zI 1) hx hb dL_isLifted_215 rfl ?_
                  refine lv_goto (tgt := 220) hx hb dL_isLifted_216 (by decide) ?_
                  refine vx_ret ?_
                  refine W.widen (k := 70) (n := 420) (by omega) (by omega) ?_
                  exact W.zret (v := zI (1)) (ty := .boolean) hx hb hr (by decide +kernel) (fun t9 ht hW => ⟨⟨_, (q, σc111), rfl, ⟨_, rfl, ⟨rfl, hO2, hE2⟩⟩, Wd_mk (wP_left hP) hE0 hS ht hW⟩, hS.F ht⟩) hS.2.2 dL_isLifted_220
                · skip
                  obtain ⟨w1, w2, w3, w4, w5, w6⟩ := hpg.resolve_left (by omega)
                  obtain ⟨cn, hcn⟩ : ∃ i : Nat, σ 20 1 = (i : Int) := ⟨(σ 20 1).toNat, by omega⟩
                  have oPn := oP2 (q (σ 20 1).toNat) (oQ2.1 _ (by omega)); unfold okP at oPn
                  refine lv_aload_n hx hb dL_isLifted_136 rfl (lv_at hl 2 rfl) ?_
                  refine lv_bipush (v := zI 12) hx hb dL_isLifted_137 (by decide +kernel) ?_
                  refine vx_calli (vx_runV (As := [.int (zI (12))]) (rest := []) ⟨hx, hb, hml, hown, hts⟩ (c_X7_site l hlT D cy a q σc111 H.size (12) (by omega) _ _ hO2) (cwV 1 hts gL_isLifted_X7_site rfl rfl rfl (by decide +kernel) ⟨Nat.le_of_ble_eq_true rfl, Nat.le_of_ble_eq_true rfl⟩) ⟨Wd_blind, va_recv hK hP (ci := 9) (q0 := 0) rfl wg_S, fun U hU hW => ⟨rfl, by rw [hU], Wd_mk (wP_left hP) hE0 hS hU hW⟩⟩ rfl rfl hl.1 rfl (lv_room (Nat.le_of_ble_eq_true rfl)) dL_isLifted_139 ⟨(show 2 + k * 2 + 1 + 0 + 2 + 1 ≤ 70 by omega), (show 12 + k * 12 + 6 + 0 + 12 + 6 ≤ 420 by omega)⟩) hS (fun _ _ h => h.elim) (fun _ h => wF_mono hS.1 _ h) (fun _ _ h => h.elim) (fun E9 ce9 q9 u9 t9 H locs ht hvm hpx hE hz hk hS1 hce hcv hcl => ?_) (fun rv139 u9 t9 H locs ht hvm hw hB hz hk hS1 => ?_)
                  · skip
                    exact absurd hpx (by omega)
                  · skip
                    have hP := hP.kept (fun k x hk9 => hk x.1 ((hP k x hk9).lt) (fun h => h))
                    have hS := hS1
                    obtain rfl := hw
                    rw [show siF q σc111 (12 : Int) = σc111 20 1 from rfl]
                    refine lv_iload hx hb dL_isLifted_142 (lv_at hl 1 rfl) ?_
                    refine lv_iconst (v := zI 1) hx hb dL_isLifted_144 rfl ?_
                    refine z_iadd hx hb dL_isLifted_145 ?_
                    refine z_icmp_ne (tgt := 219) hx hb dL_isLifted_146 (by decide) (by omega) (by omega) (fun cd146 => ?_) (fun cd146 => ?_)
                    · skip
                      refine lv_iconst (v := zI 0) hx hb dL_isLifted_219 rfl ?_
                      refine vx_ret ?_
                      refine W.widen (k := 70) (n := 420) (by omega) (by omega) ?_
                      exact W.zret (v := zI (0)) (ty := .boolean) hx hb hr (by decide +kernel) (fun t9 ht hW => ⟨⟨_, (q, σc111), rfl, ⟨_, rfl, (by exfalso; omega)⟩, Wd_mk (wP_left hP) hE0 hS ht hW⟩, hS.F ht⟩) hS.2.2 dL_isLifted_220
                    · skip
                      refine lv_aload_n hx hb dL_isLifted_149 rfl (lv_at hl 2 rfl) ?_
                      refine lv_iload hx hb dL_isLifted_150 (lv_at hl 1 rfl) ?_
                      refine lv_iconst (v := zI 0) hx hb dL_isLifted_152 rfl ?_
                      refine vx_calli (vx_runV (As := [.int (zI (σ 20 1)), .int (zI (0))]) (rest := []) ⟨hx, hb, hml, hown, hts⟩ (c_X7_page l hlT D cy a q σc111 H.size (σ 20 1) (by omega) (0) (by omega) _ _ hO2) (cwV 2 hts gL_isLifted_X7_page rfl rfl rfl (by decide +kernel) ⟨Nat.le_of_ble_eq_true rfl, Nat.le_of_ble_eq_true rfl⟩) ⟨Wd_blind, va_recv hK hP (ci := 9) (q0 := 0) rfl wg_S, fun U hU hW => ⟨rfl, by rw [hU], Wd_mk (wP_left hP) hE0 hS hU hW⟩⟩ rfl rfl hl.1 rfl (lv_room (Nat.le_of_ble_eq_true rfl)) dL_isLifted_153 ⟨(show 2 + k * 2 + 1 + 0 + 2 + 1 + 1 ≤ 70 by omega), (show 12 + k * 12 + 6 + 0 + 12 + 6 + 6 ≤ 420 by omega)⟩) hS (fun _ _ h => h.elim) (fun _ h => wF_mono hS.1 _ h) (fun _ _ h => h.elim) (fun E9 ce9 q9 u9 t9 H locs ht hvm hpx hE hz hk hS1 hce hcv hcl => ?_) (fun rv153 u9 t9 H locs ht hvm hw hB hz hk hS1 => ?_)
                      · skip
                        exact absurd hpx (by omega)
                      · skip
                        have hP := hP.kept (fun k x hk9 => hk x.1 ((hP k x hk9).lt) (fun h => h))
                        have hS := hS1
                        obtain rfl := hw
                        rw [show σc111 (22 + q (σ 20 1).toNat) (0 : Int).toNat = σc111 (22 + q (σ 20 1).toNat) 0 from rfl]
                        refine z_if_ne (tgt := 219) hx hb dL_isLifted_156 (by decide) (by omega) (fun cd156 => ?_) (fun cd156 => ?_)
                        · skip
                          refine lv_iconst (v := zI 0) hx hb dL_isLifted_219 rfl ?_
                          refine vx_ret ?_
                          refine W.widen (k := 70) (n := 420) (by omega) (by omega) ?_
                          exact W.zret (v := zI (0)) (ty := .boolean) hx hb hr (by decide +kernel) (fun t9 ht hW => ⟨⟨_, (q, σc111), rfl, ⟨_, rfl, (by exfalso; omega)⟩, Wd_mk (wP_left hP) hE0 hS ht hW⟩, hS.F ht⟩) hS.2.2 dL_isLifted_220
                        · skip
                          refine lv_aload_n hx hb dL_isLifted_159 rfl (lv_at hl 2 rfl) ?_
                          refine lv_iload hx hb dL_isLifted_160 (lv_at hl 1 rfl) ?_
                          refine lv_iconst (v := zI 1) hx hb dL_isLifted_162 rfl ?_
                          refine vx_calli (vx_runV (As := [.int (zI (σ 20 1)), .int (zI (1))]) (rest := []) ⟨hx, hb, hml, hown, hts⟩ (c_X7_page l hlT D cy a q σc111 H.size (σ 20 1) (by omega) (1) (by omega) _ _ hO2) (cwV 2 hts gL_isLifted_X7_page rfl rfl rfl (by decide +kernel) ⟨Nat.le_of_ble_eq_true rfl, Nat.le_of_ble_eq_true rfl⟩) ⟨Wd_blind, va_recv hK hP (ci := 9) (q0 := 0) rfl wg_S, fun U hU hW => ⟨rfl, by rw [hU], Wd_mk (wP_left hP) hE0 hS hU hW⟩⟩ rfl rfl hl.1 rfl (lv_room (Nat.le_of_ble_eq_true rfl)) dL_isLifted_163 ⟨(show 2 + k * 2 + 1 + 0 + 2 + 1 + 1 + 1 ≤ 70 by omega), (show 12 + k * 12 + 6 + 0 + 12 + 6 + 6 + 6 ≤ 420 by omega)⟩) hS (fun _ _ h => h.elim) (fun _ h => wF_mono hS.1 _ h) (fun _ _ h => h.elim) (fun E9 ce9 q9 u9 t9 H locs ht hvm hpx hE hz hk hS1 hce hcv hcl => ?_) (fun rv163 u9 t9 H locs ht hvm hw hB hz hk hS1 => ?_)
                          · skip
                            exact absurd hpx (by omega)
                          · skip
                            have hP := hP.kept (fun k x hk9 => hk x.1 ((hP k x hk9).lt) (fun h => h))
                            have hS := hS1
                            obtain rfl := hw
                            rw [show σc111 (22 + q (σ 20 1).toNat) (1 : Int).toNat = σc111 (22 + q (σ 20 1).toNat) 1 from rfl]
                            refine lv_iload_n hx hb dL_isLifted_166 rfl (lv_at hl 3 rfl) ?_
                            refine z_icmp_ne (tgt := 219) hx hb dL_isLifted_167 (by decide) (by omega) (by omega) (fun cd167 => ?_) (fun cd167 => ?_)
                            · skip
                              refine lv_iconst (v := zI 0) hx hb dL_isLifted_219 rfl ?_
                              refine vx_ret ?_
                              refine W.widen (k := 70) (n := 420) (by omega) (by omega) ?_
                              exact W.zret (v := zI (0)) (ty := .boolean) hx hb hr (by decide +kernel) (fun t9 ht hW => ⟨⟨_, (q, σc111), rfl, ⟨_, rfl, (by exfalso; omega)⟩, Wd_mk (wP_left hP) hE0 hS ht hW⟩, hS.F ht⟩) hS.2.2 dL_isLifted_220
                            · skip
                              refine lv_aload_n hx hb dL_isLifted_170 rfl (lv_at hl 2 rfl) ?_
                              refine lv_iload hx hb dL_isLifted_171 (lv_at hl 1 rfl) ?_
                              refine lv_iconst (v := zI 3) hx hb dL_isLifted_173 rfl ?_
                              refine vx_calli (vx_runV (As := [.int (zI (σ 20 1)), .int (zI (3))]) (rest := []) ⟨hx, hb, hml, hown, hts⟩ (c_X7_page l hlT D cy a q σc111 H.size (σ 20 1) (by omega) (3) (by omega) _ _ hO2) (cwV 2 hts gL_isLifted_X7_page rfl rfl rfl (by decide +kernel) ⟨Nat.le_of_ble_eq_true rfl, Nat.le_of_ble_eq_true rfl⟩) ⟨Wd_blind, va_recv hK hP (ci := 9) (q0 := 0) rfl wg_S, fun U hU hW => ⟨rfl, by rw [hU], Wd_mk (wP_left hP) hE0 hS hU hW⟩⟩ rfl rfl hl.1 rfl (lv_room (Nat.le_of_ble_eq_true rfl)) dL_isLifted_174 ⟨(show 2 + k * 2 + 1 + 0 + 2 + 1 + 1 + 1 + 1 ≤ 70 by omega), (show 12 + k * 12 + 6 + 0 + 12 + 6 + 6 + 6 + 6 ≤ 420 by omega)⟩) hS (fun _ _ h => h.elim) (fun _ h => wF_mono hS.1 _ h) (fun _ _ h => h.elim) (fun E9 ce9 q9 u9 t9 H locs ht hvm hpx hE hz hk hS1 hce hcv hcl => ?_) (fun rv174 u9 t9 H locs ht hvm hw hB hz hk hS1 => ?_)
                              · skip
                                exact absurd hpx (by omega)
                              · skip
                                have hP := hP.kept (fun k x hk9 => hk x.1 ((hP k x hk9).lt) (fun h => h))
                                have hS := hS1
                                obtain rfl := hw
                                rw [show σc111 (22 + q (σ 20 1).toNat) (3 : Int).toNat = σc111 (22 + q (σ 20 1).toNat) 3 from rfl]
                                refine lv_iload_n hx hb dL_isLifted_177 rfl (lv_at hl 5 rfl) ?_
                                refine z_icmp_ne (tgt := 219) hx hb dL_isLifted_178 (by decide) (by omega) (by omega) (fun cd178 => ?_) (fun cd178 => ?_)
                                · skip
                                  refine lv_iconst (v := zI 0) hx hb dL_isLifted_219 rfl ?_
                                  refine vx_ret ?_
                                  refine W.widen (k := 70) (n := 420) (by omega) (by omega) ?_
                                  exact W.zret (v := zI (0)) (ty := .boolean) hx hb hr (by decide +kernel) (fun t9 ht hW => ⟨⟨_, (q, σc111), rfl, ⟨_, rfl, (by exfalso; omega)⟩, Wd_mk (wP_left hP) hE0 hS ht hW⟩, hS.F ht⟩) hS.2.2 dL_isLifted_220
                                · skip
                                  refine lv_aload_n hx hb dL_isLifted_181 rfl (lv_at hl 2 rfl) ?_
                                  refine lv_iload hx hb dL_isLifted_182 (lv_at hl 1 rfl) ?_
                                  refine lv_iconst (v := zI 4) hx hb dL_isLifted_184 rfl ?_
                                  refine vx_calli (vx_runV (As := [.int (zI (σ 20 1)), .int (zI (4))]) (rest := []) ⟨hx, hb, hml, hown, hts⟩ (c_X7_page l hlT D cy a q σc111 H.size (σ 20 1) (by omega) (4) (by omega) _ _ hO2) (cwV 2 hts gL_isLifted_X7_page rfl rfl rfl (by decide +kernel) ⟨Nat.le_of_ble_eq_true rfl, Nat.le_of_ble_eq_true rfl⟩) ⟨Wd_blind, va_recv hK hP (ci := 9) (q0 := 0) rfl wg_S, fun U hU hW => ⟨rfl, by rw [hU], Wd_mk (wP_left hP) hE0 hS hU hW⟩⟩ rfl rfl hl.1 rfl (lv_room (Nat.le_of_ble_eq_true rfl)) dL_isLifted_185 ⟨(show 2 + k * 2 + 1 + 0 + 2 + 1 + 1 + 1 + 1 + 1 ≤ 70 by omega), (show 12 + k * 12 + 6 + 0 + 12 + 6 + 6 + 6 + 6 + 6 ≤ 420 by omega)⟩) hS (fun _ _ h => h.elim) (fun _ h => wF_mono hS.1 _ h) (fun _ _ h => h.elim) (fun E9 ce9 q9 u9 t9 H locs ht hvm hpx hE hz hk hS1 hce hcv hcl => ?_) (fun rv185 u9 t9 H locs ht hvm hw hB hz hk hS1 => ?_)
                                  · skip
                                    exact absurd hpx (by omega)
                                  · skip
                                    have hP := hP.kept (fun k x hk9 => hk x.1 ((hP k x hk9).lt) (fun h => h))
                                    have hS := hS1
                                    obtain rfl := hw
                                    rw [show σc111 (22 + q (σ 20 1).toNat) (4 : Int).toNat = σc111 (22 + q (σ 20 1).toNat) 4 from rfl]
                                    refine lv_iload hx hb dL_isLifted_188 (lv_at hl 0 rfl) ?_
                                    refine z_icmp_ne (tgt := 219) hx hb dL_isLifted_190 (by decide) (by omega) (by omega) (fun cd190 => ?_) (fun cd190 => ?_)
                                    · skip
                                      refine lv_iconst (v := zI 0) hx hb dL_isLifted_219 rfl ?_
                                      refine vx_ret ?_
                                      refine W.widen (k := 70) (n := 420) (by omega) (by omega) ?_
                                      exact W.zret (v := zI (0)) (ty := .boolean) hx hb hr (by decide +kernel) (fun t9 ht hW => ⟨⟨_, (q, σc111), rfl, ⟨_, rfl, (by exfalso; omega)⟩, Wd_mk (wP_left hP) hE0 hS ht hW⟩, hS.F ht⟩) hS.2.2 dL_isLifted_220
                                    · skip
                                      refine lv_aload_n hx hb dL_isLifted_193 rfl (lv_at hl 2 rfl) ?_
                                      refine lv_iload hx hb dL_isLifted_194 (lv_at hl 1 rfl) ?_
                                      refine lv_bipush (v := zI 6) hx hb dL_isLifted_196 (by decide +kernel) ?_
                                      refine vx_calli (vx_runV (As := [.int (zI (σ 20 1)), .int (zI (6))]) (rest := []) ⟨hx, hb, hml, hown, hts⟩ (c_X7_page l hlT D cy a q σc111 H.size (σ 20 1) (by omega) (6) (by omega) _ _ hO2) (cwV 2 hts gL_isLifted_X7_page rfl rfl rfl (by decide +kernel) ⟨Nat.le_of_ble_eq_true rfl, Nat.le_of_ble_eq_true rfl⟩) ⟨Wd_blind, va_recv hK hP (ci := 9) (q0 := 0) rfl wg_S, fun U hU hW => ⟨rfl, by rw [hU], Wd_mk (wP_left hP) hE0 hS hU hW⟩⟩ rfl rfl hl.1 rfl (lv_room (Nat.le_of_ble_eq_true rfl)) dL_isLifted_198 ⟨(show 2 + k * 2 + 1 + 0 + 2 + 1 + 1 + 1 + 1 + 1 + 1 ≤ 70 by omega), (show 12 + k * 12 + 6 + 0 + 12 + 6 + 6 + 6 + 6 + 6 + 6 ≤ 420 by omega)⟩) hS (fun _ _ h => h.elim) (fun _ h => wF_mono hS.1 _ h) (fun _ _ h => h.elim) (fun E9 ce9 q9 u9 t9 H locs ht hvm hpx hE hz hk hS1 hce hcv hcl => ?_) (fun rv198 u9 t9 H locs ht hvm hw hB hz hk hS1 => ?_)
                                      · skip
                                        exact absurd hpx (by omega)
                                      · skip
                                        have hP := hP.kept (fun k x hk9 => hk x.1 ((hP k x hk9).lt) (fun h => h))
                                        have hS := hS1
                                        obtain rfl := hw
                                        rw [show σc111 (22 + q (σ 20 1).toNat) (6 : Int).toNat = σc111 (22 + q (σ 20 1).toNat) 6 from rfl]
                                        refine lv_iload hx hb dL_isLifted_201 (lv_at hl 0 rfl) ?_
                                        refine z_if_ne (tgt := 211) hx hb dL_isLifted_203 (by decide) (by omega) (fun cd203 => ?_) (fun cd203 => ?_)
                                        · skip
                                          refine lv_iconst (v := zI (-1)) hx hb dL_isLifted_211 rfl ?_
                                          refine z_icmp_ne (tgt := 219) hx hb dL_isLifted_212 (by decide) (by omega) (by omega) (fun cd212 => ?_) (fun cd212 => ?_)
                                          · skip
                                            refine lv_iconst (v := zI 0) hx hb dL_isLifted_219 rfl ?_
                                            refine vx_ret ?_
                                            refine W.widen (k := 70) (n := 420) (by omega) (by omega) ?_
                                            exact W.zret (v := zI (0)) (ty := .boolean) hx hb hr (by decide +kernel) (fun t9 ht hW => ⟨⟨_, (q, σc111), rfl, ⟨_, rfl, (by exfalso; omega)⟩, Wd_mk (wP_left hP) hE0 hS ht hW⟩, hS.F ht⟩) hS.2.2 dL_isLifted_220
                                          · skip
                                            refine lv_iconst (v := zI 1) hx hb dL_isLifted_215 rfl ?_
                                            refine lv_goto (tgt := 220) hx hb dL_isLifted_216 (by decide) ?_
                                            refine vx_ret ?_
                                            refine W.widen (k := 70) (n := 420) (by omega) (by omega) ?_
                                            exact W.zret (v := zI (1)) (ty := .boolean) hx hb hr (by decide +kernel) (fun t9 ht hW => ⟨⟨_, (q, σc111), rfl, ⟨_, rfl, ⟨rfl, hO2, hE2⟩⟩, Wd_mk (wP_left hP) hE0 hS ht hW⟩, hS.F ht⟩) hS.2.2 dL_isLifted_220
                                        · skip
                                          refine lv_iload hx hb dL_isLifted_206 (lv_at hl 8 rfl) ?_
                                          refine lv_goto (tgt := 212) hx hb dL_isLifted_208 (by decide) ?_
                                          refine z_icmp_ne (tgt := 219) hx hb dL_isLifted_212 (by decide) (by omega) (by omega) (fun cd212 => ?_) (fun cd212 => ?_)
                                          · skip
                                            refine lv_iconst (v := zI 0) hx hb dL_isLifted_219 rfl ?_
                                            refine vx_ret ?_
                                            refine W.widen (k := 70) (n := 420) (by omega) (by omega) ?_
                                            exact W.zret (v := zI (0)) (ty := .boolean) hx hb hr (by decide +kernel) (fun t9 ht hW => ⟨⟨_, (q, σc111), rfl, ⟨_, rfl, (by exfalso; omega)⟩, Wd_mk (wP_left hP) hE0 hS ht hW⟩, hS.F ht⟩) hS.2.2 dL_isLifted_220
                                          · skip
                                            refine lv_iconst (v := zI 1) hx hb dL_isLifted_215 rfl ?_
                                            refine lv_goto (tgt := 220) hx hb dL_isLifted_216 (by decide) ?_
                                            refine vx_ret ?_
                                            refine W.widen (k := 70) (n := 420) (by omega) (by omega) ?_
                                            exact W.zret (v := zI (1)) (ty := .boolean) hx hb hr (by decide +kernel) (fun t9 ht hW => ⟨⟨_, (q, σc111), rfl, ⟨_, rfl, ⟨rfl, hO2, hE2⟩⟩, Wd_mk (wP_left hP) hE0 hS ht hW⟩, hS.F ht⟩) hS.2.2 dL_isLifted_220
              · skip
                refine lv_iload_n hx hb dL_isLifted_121 rfl (lv_at hl 5 rfl) ?_
                refine lv_iload hx hb dL_isLifted_122 (lv_at hl 8 rfl) ?_
                refine z_icmp_le (tgt := 129) hx hb dL_isLifted_124 (by decide) (by omega) (by omega) (fun cd124 => ?_) (fun cd124 => ?_)
                · skip
                  refine lv_iload hx hb dL_isLifted_129 (lv_at hl 1 rfl) ?_
                  refine lv_bipush (v := zI 40) hx hb dL_isLifted_131 (by decide +kernel) ?_
                  refine z_icmp_eq (tgt := 215) hx hb dL_isLifted_133 (by decide) (by omega) (by omega) (fun cd133 => ?_) (fun cd133 => ?_)
                  · skip
                    refine lv_iconst (v := zI 1) hx hb dL_isLifted_215 rfl ?_
                    refine lv_goto (tgt := 220) hx hb dL_isLifted_216 (by decide) ?_
                    refine vx_ret ?_
                    refine W.widen (k := 70) (n := 420) (by omega) (by omega) ?_
                    exact W.zret (v := zI (1)) (ty := .boolean) hx hb hr (by decide +kernel) (fun t9 ht hW => ⟨⟨_, (q, σc111), rfl, ⟨_, rfl, ⟨rfl, hO2, hE2⟩⟩, Wd_mk (wP_left hP) hE0 hS ht hW⟩, hS.F ht⟩) hS.2.2 dL_isLifted_220
                  · skip
                    obtain ⟨w1, w2, w3, w4, w5, w6⟩ := hpg.resolve_left (by omega)
                    obtain ⟨cn, hcn⟩ : ∃ i : Nat, σ 20 1 = (i : Int) := ⟨(σ 20 1).toNat, by omega⟩
                    have oPn := oP2 (q (σ 20 1).toNat) (oQ2.1 _ (by omega)); unfold okP at oPn
                    refine lv_aload_n hx hb dL_isLifted_136 rfl (lv_at hl 2 rfl) ?_
                    refine lv_bipush (v := zI 12) hx hb dL_isLifted_137 (by decide +kernel) ?_
                    refine vx_calli (vx_runV (As := [.int (zI (12))]) (rest := []) ⟨hx, hb, hml, hown, hts⟩ (c_X7_site l hlT D cy a q σc111 H.size (12) (by omega) _ _ hO2) (cwV 1 hts gL_isLifted_X7_site rfl rfl rfl (by decide +kernel) ⟨Nat.le_of_ble_eq_true rfl, Nat.le_of_ble_eq_true rfl⟩) ⟨Wd_blind, va_recv hK hP (ci := 9) (q0 := 0) rfl wg_S, fun U hU hW => ⟨rfl, by rw [hU], Wd_mk (wP_left hP) hE0 hS hU hW⟩⟩ rfl rfl hl.1 rfl (lv_room (Nat.le_of_ble_eq_true rfl)) dL_isLifted_139 ⟨(show 2 + k * 2 + 1 + 0 + 2 + 1 ≤ 70 by omega), (show 12 + k * 12 + 6 + 0 + 12 + 6 ≤ 420 by omega)⟩) hS (fun _ _ h => h.elim) (fun _ h => wF_mono hS.1 _ h) (fun _ _ h => h.elim) (fun E9 ce9 q9 u9 t9 H locs ht hvm hpx hE hz hk hS1 hce hcv hcl => ?_) (fun rv139 u9 t9 H locs ht hvm hw hB hz hk hS1 => ?_)
                    · skip
                      exact absurd hpx (by omega)
                    · skip
                      have hP := hP.kept (fun k x hk9 => hk x.1 ((hP k x hk9).lt) (fun h => h))
                      have hS := hS1
                      obtain rfl := hw
                      rw [show siF q σc111 (12 : Int) = σc111 20 1 from rfl]
                      refine lv_iload hx hb dL_isLifted_142 (lv_at hl 1 rfl) ?_
                      refine lv_iconst (v := zI 1) hx hb dL_isLifted_144 rfl ?_
                      refine z_iadd hx hb dL_isLifted_145 ?_
                      refine z_icmp_ne (tgt := 219) hx hb dL_isLifted_146 (by decide) (by omega) (by omega) (fun cd146 => ?_) (fun cd146 => ?_)
                      · skip
                        refine lv_iconst (v := zI 0) hx hb dL_isLifted_219 rfl ?_
                        refine vx_ret ?_
                        refine W.widen (k := 70) (n := 420) (by omega) (by omega) ?_
                        exact W.zret (v := zI (0)) (ty := .boolean) hx hb hr (by decide +kernel) (fun t9 ht hW => ⟨⟨_, (q, σc111), rfl, ⟨_, rfl, (by exfalso; omega)⟩, Wd_mk (wP_left hP) hE0 hS ht hW⟩, hS.F ht⟩) hS.2.2 dL_isLifted_220
                      · skip
                        refine lv_aload_n hx hb dL_isLifted_149 rfl (lv_at hl 2 rfl) ?_
                        refine lv_iload hx hb dL_isLifted_150 (lv_at hl 1 rfl) ?_
                        refine lv_iconst (v := zI 0) hx hb dL_isLifted_152 rfl ?_
                        refine vx_calli (vx_runV (As := [.int (zI (σ 20 1)), .int (zI (0))]) (rest := []) ⟨hx, hb, hml, hown, hts⟩ (c_X7_page l hlT D cy a q σc111 H.size (σ 20 1) (by omega) (0) (by omega) _ _ hO2) (cwV 2 hts gL_isLifted_X7_page rfl rfl rfl (by decide +kernel) ⟨Nat.le_of_ble_eq_true rfl, Nat.le_of_ble_eq_true rfl⟩) ⟨Wd_blind, va_recv hK hP (ci := 9) (q0 := 0) rfl wg_S, fun U hU hW => ⟨rfl, by rw [hU], Wd_mk (wP_left hP) hE0 hS hU hW⟩⟩ rfl rfl hl.1 rfl (lv_room (Nat.le_of_ble_eq_true rfl)) dL_isLifted_153 ⟨(show 2 + k * 2 + 1 + 0 + 2 + 1 + 1 ≤ 70 by omega), (show 12 + k * 12 + 6 + 0 + 12 + 6 + 6 ≤ 420 by omega)⟩) hS (fun _ _ h => h.elim) (fun _ h => wF_mono hS.1 _ h) (fun _ _ h => h.elim) (fun E9 ce9 q9 u9 t9 H locs ht hvm hpx hE hz hk hS1 hce hcv hcl => ?_) (fun rv153 u9 t9 H locs ht hvm hw hB hz hk hS1 => ?_)
                        · skip
                          exact absurd hpx (by omega)
                        · skip
                          have hP := hP.kept (fun k x hk9 => hk x.1 ((hP k x hk9).lt) (fun h => h))
                          have hS := hS1
                          obtain rfl := hw
                          rw [show σc111 (22 + q (σ 20 1).toNat) (0 : Int).toNat = σc111 (22 + q (σ 20 1).toNat) 0 from rfl]
                          refine z_if_ne (tgt := 219) hx hb dL_isLifted_156 (by decide) (by omega) (fun cd156 => ?_) (fun cd156 => ?_)
                          · skip
                            refine lv_iconst (v := zI 0) hx hb dL_isLifted_219 rfl ?_
                            refine vx_ret ?_
                            refine W.widen (k := 70) (n := 420) (by omega) (by omega) ?_
                            exact W.zret (v := zI (0)) (ty := .boolean) hx hb hr (by decide +kernel) (fun t9 ht hW => ⟨⟨_, (q, σc111), rfl, ⟨_, rfl, (by exfalso; omega)⟩, Wd_mk (wP_left hP) hE0 hS ht hW⟩, hS.F ht⟩) hS.2.2 dL_isLifted_220
                          · skip
                            refine lv_aload_n hx hb dL_isLifted_159 rfl (lv_at hl 2 rfl) ?_
                            refine lv_iload hx hb dL_isLifted_160 (lv_at hl 1 rfl) ?_
                            refine lv_iconst (v := zI 1) hx hb dL_isLifted_162 rfl ?_
                            refine vx_calli (vx_runV (As := [.int (zI (σ 20 1)), .int (zI (1))]) (rest := []) ⟨hx, hb, hml, hown, hts⟩ (c_X7_page l hlT D cy a q σc111 H.size (σ 20 1) (by omega) (1) (by omega) _ _ hO2) (cwV 2 hts gL_isLifted_X7_page rfl rfl rfl (by decide +kernel) ⟨Nat.le_of_ble_eq_true rfl, Nat.le_of_ble_eq_true rfl⟩) ⟨Wd_blind, va_recv hK hP (ci := 9) (q0 := 0) rfl wg_S, fun U hU hW => ⟨rfl, by rw [hU], Wd_mk (wP_left hP) hE0 hS hU hW⟩⟩ rfl rfl hl.1 rfl (lv_room (Nat.le_of_ble_eq_true rfl)) dL_isLifted_163 ⟨(show 2 + k * 2 + 1 + 0 + 2 + 1 + 1 + 1 ≤ 70 by omega), (show 12 + k * 12 + 6 + 0 + 12 + 6 + 6 + 6 ≤ 420 by omega)⟩) hS (fun _ _ h => h.elim) (fun _ h => wF_mono hS.1 _ h) (fun _ _ h => h.elim) (fun E9 ce9 q9 u9 t9 H locs ht hvm hpx hE hz hk hS1 hce hcv hcl => ?_) (fun rv163 u9 t9 H locs ht hvm hw hB hz hk hS1 => ?_)
                            · skip
                              exact absurd hpx (by omega)
                            · skip
                              have hP := hP.kept (fun k x hk9 => hk x.1 ((hP k x hk9).lt) (fun h => h))
                              have hS := hS1
                              obtain rfl := hw
                              rw [show σc111 (22 + q (σ 20 1).toNat) (1 : Int).toNat = σc111 (22 + q (σ 20 1).toNat) 1 from rfl]
                              refine lv_iload_n hx hb dL_isLifted_166 rfl (lv_at hl 3 rfl) ?_
                              refine z_icmp_ne (tgt := 219) hx hb dL_isLifted_167 (by decide) (by omega) (by omega) (fun cd167 => ?_) (fun cd167 => ?_)
                              · skip
                                refine lv_iconst (v := zI 0) hx hb dL_isLifted_219 rfl ?_
                                refine vx_ret ?_
                                refine W.widen (k := 70) (n := 420) (by omega) (by omega) ?_
                                exact W.zret (v := zI (0)) (ty := .boolean) hx hb hr (by decide +kernel) (fun t9 ht hW => ⟨⟨_, (q, σc111), rfl, ⟨_, rfl, (by exfalso; omega)⟩, Wd_mk (wP_left hP) hE0 hS ht hW⟩, hS.F ht⟩) hS.2.2 dL_isLifted_220
                              · skip
                                refine lv_aload_n hx hb dL_isLifted_170 rfl (lv_at hl 2 rfl) ?_
                                refine lv_iload hx hb dL_isLifted_171 (lv_at hl 1 rfl) ?_
                                refine lv_iconst (v := zI 3) hx hb dL_isLifted_173 rfl ?_
                                refine vx_calli (vx_runV (As := [.int (zI (σ 20 1)), .int (zI (3))]) (rest := []) ⟨hx, hb, hml, hown, hts⟩ (c_X7_page l hlT D cy a q σc111 H.size (σ 20 1) (by omega) (3) (by omega) _ _ hO2) (cwV 2 hts gL_isLifted_X7_page rfl rfl rfl (by decide +kernel) ⟨Nat.le_of_ble_eq_true rfl, Nat.le_of_ble_eq_true rfl⟩) ⟨Wd_blind, va_recv hK hP (ci := 9) (q0 := 0) rfl wg_S, fun U hU hW => ⟨rfl, by rw [hU], Wd_mk (wP_left hP) hE0 hS hU hW⟩⟩ rfl rfl hl.1 rfl (lv_room (Nat.le_of_ble_eq_true rfl)) dL_isLifted_174 ⟨(show 2 + k * 2 + 1 + 0 + 2 + 1 + 1 + 1 + 1 ≤ 70 by omega), (show 12 + k * 12 + 6 + 0 + 12 + 6 + 6 + 6 + 6 ≤ 420 by omega)⟩) hS (fun _ _ h => h.elim) (fun _ h => wF_mono hS.1 _ h) (fun _ _ h => h.elim) (fun E9 ce9 q9 u9 t9 H locs ht hvm hpx hE hz hk hS1 hce hcv hcl => ?_) (fun rv174 u9 t9 H locs ht hvm hw hB hz hk hS1 => ?_)
                                · skip
                                  exact absurd hpx (by omega)
                                · skip
                                  have hP := hP.kept (fun k x hk9 => hk x.1 ((hP k x hk9).lt) (fun h => h))
                                  have hS := hS1
                                  obtain rfl := hw
                                  rw [show σc111 (22 + q (σ 20 1).toNat) (3 : Int).toNat = σc111 (22 + q (σ 20 1).toNat) 3 from rfl]
                                  refine lv_iload_n hx hb dL_isLifted_177 rfl (lv_at hl 5 rfl) ?_
                                  refine z_icmp_ne (tgt := 219) hx hb dL_isLifted_178 (by decide) (by omega) (by omega) (fun cd178 => ?_) (fun cd178 => ?_)
                                  · skip
                                    refine lv_iconst (v := zI 0) hx hb dL_isLifted_219 rfl ?_
                                    refine vx_ret ?_
                                    refine W.widen (k := 70) (n := 420) (by omega) (by omega) ?_
                                    exact W.zret (v := zI (0)) (ty := .boolean) hx hb hr (by decide +kernel) (fun t9 ht hW => ⟨⟨_, (q, σc111), rfl, ⟨_, rfl, (by exfalso; omega)⟩, Wd_mk (wP_left hP) hE0 hS ht hW⟩, hS.F ht⟩) hS.2.2 dL_isLifted_220
                                  · skip
                                    refine lv_aload_n hx hb dL_isLifted_181 rfl (lv_at hl 2 rfl) ?_
                                    refine lv_iload hx hb dL_isLifted_182 (lv_at hl 1 rfl) ?_
                                    refine lv_iconst (v := zI 4) hx hb dL_isLifted_184 rfl ?_
                                    refine vx_calli (vx_runV (As := [.int (zI (σ 20 1)), .int (zI (4))]) (rest := []) ⟨hx, hb, hml, hown, hts⟩ (c_X7_page l hlT D cy a q σc111 H.size (σ 20 1) (by omega) (4) (by omega) _ _ hO2) (cwV 2 hts gL_isLifted_X7_page rfl rfl rfl (by decide +kernel) ⟨Nat.le_of_ble_eq_true rfl, Nat.le_of_ble_eq_true rfl⟩) ⟨Wd_blind, va_recv hK hP (ci := 9) (q0 := 0) rfl wg_S, fun U hU hW => ⟨rfl, by rw [hU], Wd_mk (wP_left hP) hE0 hS hU hW⟩⟩ rfl rfl hl.1 rfl (lv_room (Nat.le_of_ble_eq_true rfl)) dL_isLifted_185 ⟨(show 2 + k * 2 + 1 + 0 + 2 + 1 + 1 + 1 + 1 + 1 ≤ 70 by omega), (show 12 + k * 12 + 6 + 0 + 12 + 6 + 6 + 6 + 6 + 6 ≤ 420 by omega)⟩) hS (fun _ _ h => h.elim) (fun _ h => wF_mono hS.1 _ h) (fun _ _ h => h.elim) (fun E9 ce9 q9 u9 t9 H locs ht hvm hpx hE hz hk hS1 hce hcv hcl => ?_) (fun rv185 u9 t9 H locs ht hvm hw hB hz hk hS1 => ?_)
                                    · skip
                                      exact absurd hpx (by omega)
                                    · skip
                                      have hP := hP.kept (fun k x hk9 => hk x.1 ((hP k x hk9).lt) (fun h => h))
                                      have hS := hS1
                                      obtain rfl := hw
                                      rw [show σc111 (22 + q (σ 20 1).toNat) (4 : Int).toNat = σc111 (22 + q (σ 20 1).toNat) 4 from rfl]
                                      refine lv_iload hx hb dL_isLifted_188 (lv_at hl 0 rfl) ?_
                                      refine z_icmp_ne (tgt := 219) hx hb dL_isLifted_190 (by decide) (by omega) (by omega) (fun cd190 => ?_) (fun cd190 => ?_)
                                      · skip
                                        refine lv_iconst (v := zI 0) hx hb dL_isLifted_219 rfl ?_
                                        refine vx_ret ?_
                                        refine W.widen (k := 70) (n := 420) (by omega) (by omega) ?_
                                        exact W.zret (v := zI (0)) (ty := .boolean) hx hb hr (by decide +kernel) (fun t9 ht hW => ⟨⟨_, (q, σc111), rfl, ⟨_, rfl, (by exfalso; omega)⟩, Wd_mk (wP_left hP) hE0 hS ht hW⟩, hS.F ht⟩) hS.2.2 dL_isLifted_220
                                      · skip
                                        refine lv_aload_n hx hb dL_isLifted_193 rfl (lv_at hl 2 rfl) ?_
                                        refine lv_iload hx hb dL_isLifted_194 (lv_at hl 1 rfl) ?_
                                        refine lv_bipush (v := zI 6) hx hb dL_isLifted_196 (by decide +kernel) ?_
                                        refine vx_calli (vx_runV (As := [.int (zI (σ 20 1)), .int (zI (6))]) (rest := []) ⟨hx, hb, hml, hown, hts⟩ (c_X7_page l hlT D cy a q σc111 H.size (σ 20 1) (by omega) (6) (by omega) _ _ hO2) (cwV 2 hts gL_isLifted_X7_page rfl rfl rfl (by decide +kernel) ⟨Nat.le_of_ble_eq_true rfl, Nat.le_of_ble_eq_true rfl⟩) ⟨Wd_blind, va_recv hK hP (ci := 9) (q0 := 0) rfl wg_S, fun U hU hW => ⟨rfl, by rw [hU], Wd_mk (wP_left hP) hE0 hS hU hW⟩⟩ rfl rfl hl.1 rfl (lv_room (Nat.le_of_ble_eq_true rfl)) dL_isLifted_198 ⟨(show 2 + k * 2 + 1 + 0 + 2 + 1 + 1 + 1 + 1 + 1 + 1 ≤ 70 by omega), (show 12 + k * 12 + 6 + 0 + 12 + 6 + 6 + 6 + 6 + 6 + 6 ≤ 420 by omega)⟩) hS (fun _ _ h => h.elim) (fun _ h => wF_mono hS.1 _ h) (fun _ _ h => h.elim) (fun E9 ce9 q9 u9 t9 H locs ht hvm hpx hE hz hk hS1 hce hcv hcl => ?_) (fun rv198 u9 t9 H locs ht hvm hw hB hz hk hS1 => ?_)
                                        · skip
                                          exact absurd hpx (by omega)
                                        · skip
                                          have hP := hP.kept (fun k x hk9 => hk x.1 ((hP k x hk9).lt) (fun h => h))
                                          have hS := hS1
                                          obtain rfl := hw
                                          rw [show σc111 (22 + q (σ 20 1).toNat) (6 : Int).toNat = σc111 (22 + q (σ 20 1).toNat) 6 from rfl]
                                          refine lv_iload hx hb dL_isLifted_201 (lv_at hl 0 rfl) ?_
                                          refine z_if_ne (tgt := 211) hx hb dL_isLifted_203 (by decide) (by omega) (fun cd203 => ?_) (fun cd203 => ?_)
                                          · skip
                                            refine lv_iconst (v := zI (-1)) hx hb dL_isLifted_211 rfl ?_
                                            refine z_icmp_ne (tgt := 219) hx hb dL_isLifted_212 (by decide) (by omega) (by omega) (fun cd212 => ?_) (fun cd212 => ?_)
                                            · skip
                                              refine lv_iconst (v := zI 0) hx hb dL_isLifted_219 rfl ?_
                                              refine vx_ret ?_
                                              refine W.widen (k := 70) (n := 420) (by omega) (by omega) ?_
                                              exact W.zret (v := zI (0)) (ty := .boolean) hx hb hr (by decide +kernel) (fun t9 ht hW => ⟨⟨_, (q, σc111), rfl, ⟨_, rfl, (by exfalso; omega)⟩, Wd_mk (wP_left hP) hE0 hS ht hW⟩, hS.F ht⟩) hS.2.2 dL_isLifted_220
                                            · skip
                                              refine lv_iconst (v := zI 1) hx hb dL_isLifted_215 rfl ?_
                                              refine lv_goto (tgt := 220) hx hb dL_isLifted_216 (by decide) ?_
                                              refine vx_ret ?_
                                              refine W.widen (k := 70) (n := 420) (by omega) (by omega) ?_
                                              exact W.zret (v := zI (1)) (ty := .boolean) hx hb hr (by decide +kernel) (fun t9 ht hW => ⟨⟨_, (q, σc111), rfl, ⟨_, rfl, ⟨rfl, hO2, hE2⟩⟩, Wd_mk (wP_left hP) hE0 hS ht hW⟩, hS.F ht⟩) hS.2.2 dL_isLifted_220
                                          · skip
                                            refine lv_iload hx hb dL_isLifted_206 (lv_at hl 8 rfl) ?_
                                            refine lv_goto (tgt := 212) hx hb dL_isLifted_208 (by decide) ?_
                                            refine z_icmp_ne (tgt := 219) hx hb dL_isLifted_212 (by decide) (by omega) (by omega) (fun cd212 => ?_) (fun cd212 => ?_)
                                            · skip
                                              refine lv_iconst (v := zI 0) hx hb dL_isLifted_219 rfl ?_
                                              refine vx_ret ?_
                                              refine W.widen (k := 70) (n := 420) (by omega) (by omega) ?_
                                              exact W.zret (v := zI (0)) (ty := .boolean) hx hb hr (by decide +kernel) (fun t9 ht hW => ⟨⟨_, (q, σc111), rfl, ⟨_, rfl, (by exfalso; omega)⟩, Wd_mk (wP_left hP) hE0 hS ht hW⟩, hS.F ht⟩) hS.2.2 dL_isLifted_220
                                            · skip
                                              refine lv_iconst (v := zI 1) hx hb dL_isLifted_215 rfl ?_
                                              refine lv_goto (tgt := 220) hx hb dL_isLifted_216 (by decide) ?_
                                              refine vx_ret ?_
                                              refine W.widen (k := 70) (n := 420) (by omega) (by omega) ?_
                                              exact W.zret (v := zI (1)) (ty := .boolean) hx hb hr (by decide +kernel) (fun t9 ht hW => ⟨⟨_, (q, σc111), rfl, ⟨_, rfl, ⟨rfl, hO2, hE2⟩⟩, Wd_mk (wP_left hP) hE0 hS ht hW⟩, hS.F ht⟩) hS.2.2 dL_isLifted_220
                · skip
                  refine lv_iconst (v := zI 0) hx hb dL_isLifted_127 rfl ?_
                  refine vx_ret ?_
                  refine W.widen (k := 70) (n := 420) (by omega) (by omega) ?_
                  exact W.zret (v := zI (0)) (ty := .boolean) hx hb hr (by decide +kernel) (fun t9 ht hW => ⟨⟨_, (q, σc111), rfl, ⟨_, rfl, (by exfalso; omega)⟩, Wd_mk (wP_left hP) hE0 hS ht hW⟩, hS.F ht⟩) hS.2.2 dL_isLifted_128
        · skip
          refine lv_iload hx hb dL_isLifted_68 (lv_at hl 6 rfl) ?_
          refine lv_aload_n hx hb dL_isLifted_70 rfl (lv_at hl 0 rfl) ?_
          refine lv_iload_n hx hb dL_isLifted_71 rfl (lv_at hl 1 rfl) ?_
          refine lv_iload hx hb dL_isLifted_72 (lv_at hl 7 rfl) ?_
          refine vx_calli (vx_runV (As := [.int (zI (nn)), .int (zI (r9))]) (rest := [.int (zI (le9))]) ⟨hx, hb, hml, hown, hts⟩ (c_X7_capacity2 l hlT D cy a q σ H.size (nn) (by omega) (r9) (by omega) _ _ hO) (cwV 2 hts gL_isLifted_X7_capacity rfl rfl rfl (by decide +kernel) ⟨Nat.le_of_ble_eq_true rfl, Nat.le_of_ble_eq_true rfl⟩) ⟨Wd_blind, va_recv hK hP (ci := 9) (q0 := 0) rfl wg_S, fun U hU hW => ⟨rfl, by rw [hU], Wd_mk (wP_left hP) hE0 hS hU hW⟩⟩ rfl rfl hl.1 rfl (lv_room (Nat.le_of_ble_eq_true rfl)) dL_isLifted_74 ⟨(show 2 + k * 2 + 2 ≤ 70 by omega), (show 12 + k * 12 + 12 ≤ 420 by omega)⟩) hS (fun _ _ h => h.elim) (fun _ h => wF_mono hS.1 _ h) (fun _ _ h => h.elim) (fun E9 ce9 q9 u9 t9 H locs ht hvm hpx hE hz hk hS1 hce hcv hcl => ?_) (fun rv74 u9 t9 H locs ht hvm hw hB hz hk hS1 => ?_)
          · skip
            refine vx_widen (k := 70) (n := 420) (by omega) (by omega) ?_
            exact vx_out (fun x h => (hexc x h).elim) hlocks hce hcv hcl (fun t9 ht9 hvm9 => ⟨(), trivial, hE, vF_R ht9 (Nat.le_trans hS.1 hz) (fun x h9 => (hk x (Nat.lt_of_lt_of_le h9 hS.1) (fun h => h)).trans (hk0 x h9))⟩) hS1.2.2 (Nat.le_refl _) (Nat.le_refl _)
          · skip
            have hP := hP.kept (fun k x hk9 => hk x.1 ((hP k x hk9).lt) (fun h => h))
            have hk0 : ∀ x : Nat, x < s.heap.size → H[x]? = s.heap[x]? := fun x h9 => (hk x (Nat.lt_of_lt_of_le h9 hS.1) (fun h => h)).trans (hk0 x h9)
            have hS := hS1
            obtain ⟨zc74, rfl, hz74⟩ := hw
            obtain ⟨e74, -, -, -, -⟩ := hz74
            rw [hnt] at e74
            have cb74 := cpF_b oCi.2.2.2.2.1 r9 (σ 1 5) (by omega) (by omega)
            refine va_mmin hx hb (by rw [hml]; exact hl.1.symm) hown (hts (.methodLink RL 91 Lib.Math.min.name) (by decide +kernel)) (hts (.static Lib.Math.min.name) (by decide +kernel)) (hts (.initialized "java/lang/Math") (by decide +kernel)) (hts (.code Lib.Math.min.name Lib.Math.min.code 2 (some .int)) (by decide +kernel)) (Nat.le_of_ble_eq_true rfl) (Nat.le_of_ble_eq_true rfl) (show 2 + k * 2 + 2 ≤ 70 by omega) (show 12 + k * 12 + 12 ≤ 420 by omega) dL_isLifted_77 ?_
            rw [zmin (x := le9) (y := zc74) (by omega) (by omega)]
            have hmm : mnI le9 zc74 ≤ le9 ∧ mnI le9 zc74 ≤ zc74 ∧ (mnI le9 zc74 = le9 ∨ mnI le9 zc74 = zc74) := by unfold mnI; split <;> omega
            refine lv_istore (lv' := [(6, .int (zI (mnI le9 zc74))), (0, .ref (a 0)), (1, .int (zI (nn))), (2, .int (zI (v))), (3, .int (zI (ld))), (4, .int (zI (fr))), (5, .int (zI (to))), (7, .int (zI (r9)))]) hx hb dL_isLifted_80 hl (by decide) rfl (fun ls hl => ?_)
            refine lv_iinc (v := zI (r9 + 1)) (lv' := [(7, .int (zI (r9 + 1))), (6, .int (zI (mnI le9 zc74))), (0, .ref (a 0)), (1, .int (zI (nn))), (2, .int (zI (v))), (3, .int (zI (ld))), (4, .int (zI (fr))), (5, .int (zI (to)))]) hx hb dL_isLifted_82 hl (k := 7) rfl (zI_add _ _) (by decide) rfl (fun ls hl => ?_)
            refine lv_goto (tgt := 56) hx hb dL_isLifted_85 (by decide) ?_
            refine W.widen (k := 2 + (k + 1) * 2) (n := 12 + (k + 1) * 12) (by omega) (by omega) ?_
            exact ih56 (k + 1) (r9 + 1) (mnI le9 zc74) H locs ls (by omega) ⟨by omega, by omega⟩ (by omega) (fun d h1 h2 => by
                by_cases e : d = r9
                · rw [e, ← e74]; omega
                · exact Int.le_trans hmm.1 (hle2 d h1 (by omega))) (by
                rcases hmm.2.2 with e | e
                · rw [e]; exact hle3
                · rw [e]; exact ⟨r9, by unfold bw; omega, e74⟩)  hP hS hk0 (by have h9 := lv_sub hl [2, 3, 4, 5, 6, 7, 1, 0] rfl; exact h9)
    refine W.widen (k := 2 + 0 * 2) (n := 12 + 0 * 12) (by omega) (by omega) ?_
    exact loop56 (27) 0 (mnI fr to) zc42 H locs ls (by omega) ⟨by omega, by omega⟩ (by omega) (fun d h1 h2 => absurd h2 (by omega)) ⟨to, by unfold bw; omega, e42⟩  hP hS hk0 (lv_sub hl [5, 6, 7, 4, 3, 2, 1, 0] rfl)
