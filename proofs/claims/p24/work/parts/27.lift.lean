set_option maxRecDepth 100000 in
theorem vt54_X7_would : ∀ w ∈ (vx_atS RX7 54 "java/lang/IllegalArgumentException" ["java/lang/RuntimeException", "java/lang/Exception"]).filter goodWord, w ∈ wsX7_would := by decide +kernel
set_option maxHeartbeats 4000000 in
set_option maxRecDepth 100000 in
/-- X7_would -/
theorem c_X7_would (l : Launch) (hlT : l.stackTraces = false) (D : va_G) (cy : Nat → ClassId) (a q : Nat → Nat) (σ : Nat → Nat → Int) (sz : Nat) (n0 : Int) (hn0 : rg n0) (load : Int) (hload : rg load) (fr : Int) (hfr : rg fr) (to : Int) (hto : rg to) (an : Int) (han : rg an) (is : Int) (his : is = 0 ∨ is = 1) (t0 : Int) (wi : Int) (hO : okA t0 wi q σ) : vx_Met l yX7_would wsX7_would ({ frames := 13, cells := 2, slots := 12, locals := 700 }) (va_Pc [.ref (a 0), .int (zI (n0)), .int (zI (load)), .int (zI (fr)), .int (zI (to)), .int (zI (an)), .int (zI (is))] (fun U => U.heap.size = sz ∧ Wd D cy a q σ U)) (va_Qi (fun (r : Int32) (_ : Unit) => r = zI (if is = 0 then (tryF σ n0.toNat load fr to an).1 else (tryF σ n0.toNat load fr to an).2.1)) (fun _ _ => True) (fun _ => False)) (vx_X (fun (_ : Unit) => n0 < 0 ∨ σ 0 5 ≤ n0 ∨ load < 1 ∨ 199 < load ∨ fr < 10 ∨ σ (3 + n0.toNat) 1 < fr ∨ to < 10 ∨ σ (3 + n0.toNat) 1 < to ∨ an < 0 ∨ 23 < an) (fun E _ _ => okE E) (fun _ => False)) 2 12 (wF a sz) := by
  refine vx_ofW (cc := cX7_would) (maxL := 9) (ret := (some .int)) (by decide) rfl ?_
  intro p e s m args below meth c s₁ B hml hexc hpc0
  obtain ⟨rfl, hsz, hW0⟩ := hpc0
  have hx := B.exec
  have hb := B.bytes
  have hr := B.returns
  have hts := atoms_spec (ws := wsX7_would) B.pre
  have hown : s.vm.findClass RX7 = some m.cls := findClass_of_methodNamed B.named
  have hlocks := B.notSynchronized
  subst hsz
  obtain ⟨hP00, hE0⟩ := id hW0
  obtain ⟨hK, hinj, hU0, hN0, hstr, hnest⟩ := id hE0
  have hP : va_P D vwCl (wld cy a q σ ++ []) s.heap := by rw [List.append_nil]; exact hP00
  have hD : va_D (wF a s.heap.size) (wld cy a q σ ++ []) := wD_of hinj
  have hA : ∀ x : Nat, s.heap.size ≤ x → wF a s.heap.size x := fun _ h => Or.inr h
  have hS : va_S (wF a s.heap.size) s.heap s.heap [] := va_S.rf
  have hk0 : ∀ x : Nat, x < s.heap.size → s.heap[x]? = s.heap[x]? := fun _ _ => rfl
  have hl := lv_entry ([.ref (a 0), .int (zI (n0)), .int (zI (load)), .int (zI (fr)), .int (zI (to)), .int (zI (an)), .int (zI (is))]) (n := 9) (Nat.le_of_ble_eq_true rfl)
  rw [lg_entry_eq]
  generalize (lg_sl ([.ref (a 0), .int (zI (n0)), .int (zI (load)), .int (zI (fr)), .int (zI (to)), .int (zI (an)), .int (zI (is))]) ++ List.replicate (9 - (lg_sl ([.ref (a 0), .int (zI (n0)), .int (zI (load)), .int (zI (fr)), .int (zI (to)), .int (zI (an)), .int (zI (is))])).length) Slot.unset).toArray = ls at hl ⊢
  have hl : lv_has ls 9 [(0, .ref (a 0)), (1, .int (zI (n0))), (2, .int (zI (load))), (3, .int (zI (fr))), (4, .int (zI (to))), (5, .int (zI (an))), (6, .int (zI (is)))] := hl
  have k202 := hts (.fieldLink RX7 202 "Slewfree$Trial" "verdict" "I") (by decide +kernel)
  have k313 := hts (.fieldLink RX7 313 "Slewfree$Trial" "refusedStep" "I") (by decide +kernel)
  have inX4 : ∀ w ∈ u_ws RX4 TX4 3, w ∈ wsX7_would := by decide +kernel
  obtain ⟨oS, oW, oC, oZ, oM, oL, oP, oQ, oH⟩ := id hO
  unfold okS at oS; unfold okW at oW; unfold okL at oL
  refine lv_aload_n hx hb dX7_would_0 rfl (lv_at hl 0 rfl) ?_
  refine lv_iload_n hx hb dX7_would_1 rfl (lv_at hl 1 rfl) ?_
  refine vx_callr (vx_runV (As := [.int (zI (n0))]) (rest := []) ⟨hx, hb, hml, hown, hts⟩ (c_X7_craneAt l hlT D cy a q σ s.heap.size (n0) (by omega) (by first | assumption | omega)) (cwV 1 hts gX7_would_X7_craneAt rfl rfl rfl (by decide +kernel) ⟨Nat.le_of_ble_eq_true rfl, Nat.le_of_ble_eq_true rfl⟩) ⟨Wd_blind, va_recv hK hP (ci := 9) (q0 := 0) rfl wg_S, fun U hU hW => ⟨rfl, by rw [hU], Wd_mk (wP_left hP) hE0 hS hU hW⟩⟩ rfl rfl hl.1 rfl (lv_room (Nat.le_of_ble_eq_true rfl)) dX7_would_2 ⟨(show 0 + 1 ≤ 2 by omega), (show 0 + 6 ≤ 12 by omega)⟩) hS (fun _ _ h => h.elim) (fun _ h => wF_mono hS.1 _ h) (fun _ _ h => h.elim) (fun E9 ce9 q9 u9 t9 H locs ht hvm hpx hE hz hk hS1 hce hcv hcl => ?_) (fun u9 ra9 t9 H locs ht hvm hw hB hz hk hS1 => ?_)
  · skip
    refine vx_widen (k := 2) (n := 12) (by omega) (by omega) ?_
    exact vx_out (fun x h => (hexc x h).elim) hlocks hce hcv hcl (fun t9 ht9 hvm9 => ⟨(), (by omega), hE, vF_R ht9 (Nat.le_trans hS.1 hz) (fun x h9 => (hk x (Nat.lt_of_lt_of_le h9 hS.1) (fun h => h)).trans (hk0 x h9))⟩) hS1.2.2 (Nat.le_refl _) (Nat.le_refl _)
  · skip
    have hP := hP.kept (fun k x hk9 => hk x.1 ((hP k x hk9).lt) (fun h => h))
    have hk0 : ∀ x : Nat, x < s.heap.size → H[x]? = s.heap[x]? := fun x h9 => (hk x (Nat.lt_of_lt_of_le h9 hS.1) (fun h => h)).trans (hk0 x h9)
    have hS := hS1
    subst hB
    obtain ⟨ic2, eic2⟩ : ∃ z : Nat, z = u9 := ⟨u9, rfl⟩
    rw [← eic2] at hw ⊢
    have hi2 := hw
    have oC_a := oC ic2 (by omega); unfold okC at oC_a
    refine lv_astore (lv' := [(7, .ref (a (3 + ic2))), (0, .ref (a 0)), (1, .int (zI (n0))), (2, .int (zI (load))), (3, .int (zI (fr))), (4, .int (zI (to))), (5, .int (zI (an))), (6, .int (zI (is)))]) hx hb dX7_would_5 hl (by decide) rfl (fun ls hl => ?_)
    refine lv_aload hx hb dX7_would_7 (lv_at hl 0 rfl) ?_
    refine lv_iload_n hx hb dX7_would_9 rfl (lv_at hl 3 rfl) ?_
    refine lv_iload_n hx hb dX7_would_10 rfl (lv_at hl 4 rfl) ?_
    refine lv_iload hx hb dX7_would_11 (lv_at hl 5 rfl) ?_
    refine lv_iload hx hb dX7_would_13 (lv_at hl 6 rfl) ?_
    refine va_calli (va_runS (As := [.ref (a (3 + ic2)), .int (zI (load)), .int (zI (fr)), .int (zI (to)), .int (zI (an))]) (rest := []) ⟨hx, hb, hml, hown, hts⟩ (c_X7_isNoLift l D cy a q σ H.size ic2 (by first | assumption | omega) (load) (by omega) (fr) (by omega) (to) (by omega) (an) (by omega) (by omega)) (va_cwS 5 hts gX7_would_X7_isNoLift rfl rfl rfl (by decide +kernel) ⟨Nat.le_of_ble_eq_true rfl, Nat.le_of_ble_eq_true rfl⟩) ⟨Wd_blind, fun U hU hW => ⟨rfl, by rw [hU], Wd_mk (wP_left hP) hE0 hS hU hW⟩⟩ rfl rfl hl.1 rfl (lv_room (Nat.le_of_ble_eq_true rfl)) dX7_would_15 ⟨(show 0 + 1 + 0 ≤ 2 by omega), (show 0 + 6 + 0 ≤ 12 by omega)⟩) hS (fun _ _ h => h.elim) (fun _ h => wF_mono hS.1 _ h) (fun rv15 u9 t9 H locs ht hvm hw hB hz hk hS1 => ?_)
    have hP := hP.kept (fun k x hk9 => hk x.1 ((hP k x hk9).lt) (fun h => h))
    have hk0 : ∀ x : Nat, x < s.heap.size → H[x]? = s.heap[x]? := fun x h9 => (hk x (Nat.lt_of_lt_of_le h9 hS.1) (fun h => h)).trans (hk0 x h9)
    have hS := hS1
    rcases hw with ⟨rfl, bd15⟩ | ⟨rfl, bd15⟩
    · skip
      refine z_if_eq (tgt := 31) hx hb dX7_would_18 (by decide) (by decide) (fun cd18 => absurd cd18 (by decide)) (fun _ => ?_)
      obtain ⟨sa9, hsa9⟩ := hstr (196, "load is 1 to 199, radii 10 to reach, angle 0 to 23") (by decide)
      exact vx_throwS (names := ["java/lang/RuntimeException", "java/lang/Exception"]) (sa := sa9) hx hb hlT hown (by decide +kernel) (by decide +kernel) (hts (.classLink RX7 50 "java/lang/IllegalArgumentException") (by decide +kernel)) (hts (.initialized "java/lang/IllegalArgumentException") (by decide +kernel)) hsa9 (vx_hat (fun w h => hts w (vt54_X7_would w h)) vf54 hnest.2.2.1.bad) vg54 hU0 hN0 hS (by rw [hml]; exact hl.1) dX7_would_21 dX7_would_24 dX7_would_25 dX7_would_27 dX7_would_30 (fun x h => (hexc x h).elim) (Nat.le_of_ble_eq_true rfl) (Nat.le_of_ble_eq_true rfl) (show 0 + 1 + 0 + 1 ≤ 2 by omega) (show 0 + 6 + 0 + 6 ≤ 12 by omega) hlocks (fun t9 hvm9 hz9 hk9 => ⟨(), (by rw [show n0.toNat = ic2 by omega]; omega), okE_A, Nat.le_trans hS.1 hz9, fun x h9 _ => (hk9 x (Nat.lt_of_lt_of_le h9 hS.1)).trans (hk0 x h9)⟩) hS.2.2 (by omega) (by omega)
    · skip
      refine z_if_eq (tgt := 31) hx hb dX7_would_18 (by decide) (by decide) (fun _ => ?_) (fun cd18 => absurd cd18 (by decide))
      refine lv_aload_n hx hb dX7_would_31 rfl (lv_at hl 1 rfl) ?_
      refine lv_aload hx hb dX7_would_32 (lv_at hl 0 rfl) ?_
      refine lv_iload_n hx hb dX7_would_34 rfl (lv_at hl 3 rfl) ?_
      refine lv_iload_n hx hb dX7_would_35 rfl (lv_at hl 4 rfl) ?_
      refine lv_iload hx hb dX7_would_36 (lv_at hl 5 rfl) ?_
      refine lv_iload hx hb dX7_would_38 (lv_at hl 6 rfl) ?_
      refine va_callr (va_runV (As := [.ref (a (3 + ic2)), .int (zI (load)), .int (zI (fr)), .int (zI (to)), .int (zI (an))]) (rest := []) ⟨hx, hb, hml, hown, hts⟩ (c_X7_tryLift l D cy a q σ H.size ic2 (by first | assumption | omega) (load) (by omega) (fr) (by omega) (to) (by omega) (an) (by omega) (by omega) (by omega) _ _ hO) (cwV 5 hts gX7_would_X7_tryLift rfl rfl rfl (by decide +kernel) ⟨Nat.le_of_ble_eq_true rfl, Nat.le_of_ble_eq_true rfl⟩) ⟨Wd_blind, va_recv hK hP (ci := 9) (q0 := 0) rfl wg_S, fun U hU hW => ⟨rfl, by rw [hU], Wd_mk (wP_left hP) hE0 hS hU hW⟩⟩ rfl rfl hl.1 rfl (lv_room (Nat.le_of_ble_eq_true rfl)) dX7_would_40 ⟨(show 0 + 1 + 0 + 1 ≤ 2 by omega), (show 0 + 6 + 0 + 3 ≤ 12 by omega)⟩) hS (fun _ _ h => h.elim) (fun _ h => wF_mono hS.1 _ h) (fun u9 ra9 t9 H locs ht hvm hw hB hz hk hS1 => ?_)
      obtain ⟨hPt, hDt⟩ := hB
      rw [ht] at hPt
      have hP := hPt
      have hD := hDt.weaken (fun _ _ _ h => wF_mono hS.1 _ h)
      have hk0 : ∀ x : Nat, x < s.heap.size → H[x]? = s.heap[x]? := fun x h9 => (hk x (Nat.lt_of_lt_of_le h9 hS.1) (fun h => h)).trans (hk0 x h9)
      have hS := hS1
      obtain ⟨xt, ext⟩ : ∃ z : Nat, z = ra9 := ⟨ra9, rfl⟩
      rw [← ext] at hP hD ⊢
      have tn9 := tryF_n (σ := σ) (i := ic2) (load := load) (fr := fr) (to := to) (an := an) oC_a.2.2.2.2.1 (by omega) (by omega) (by omega)
      refine lv_astore (lv' := [(8, .ref (xt)), (7, .ref (a (3 + ic2))), (0, .ref (a 0)), (1, .int (zI (n0))), (2, .int (zI (load))), (3, .int (zI (fr))), (4, .int (zI (to))), (5, .int (zI (an))), (6, .int (zI (is)))]) hx hb dX7_would_43 hl (by decide) rfl (fun ls hl => ?_)
      refine lv_iload hx hb dX7_would_45 (lv_at hl 8 rfl) ?_
      refine z_if_eq (tgt := 58) hx hb dX7_would_47 (by decide) (by omega) (fun cd47 => ?_) (fun cd47 => ?_)
      · skip
        refine lv_aload hx hb dX7_would_58 (lv_at hl 0 rfl) ?_
        refine va_get (D := D) (ci := 6) (v := .int (zI ((tryF σ ic2 load fr to an).1))) (C := RX4) (T := TX4) (N := 3) hx hb hts inX4 hown hK hP 62 wg_X rfl 0 (by decide) k202 (fun _ h9 => h9) rfl dX7_would_60 ?_
        refine vx_ret ?_
        refine W.widen (k := 2) (n := 12) (by omega) (by omega) ?_
        exact W.iret (v := zI ((tryF σ ic2 load fr to an).1)) hx hb hr (fun t9 ht hW => ⟨⟨_, (), rfl, (by rw [show n0.toNat = ic2 by omega, if_pos cd47]), trivial⟩, vF_R ht hS.1 hk0⟩) hS.2.2 dX7_would_63
      · skip
        refine lv_aload hx hb dX7_would_50 (lv_at hl 0 rfl) ?_
        refine va_get (D := D) (ci := 6) (v := .int (zI ((tryF σ ic2 load fr to an).2.1))) (C := RX4) (T := TX4) (N := 3) hx hb hts inX4 hown hK hP 62 wg_X rfl 1 (by decide) k313 (fun _ h9 => h9) rfl dX7_would_52 ?_
        refine lv_goto (tgt := 63) hx hb dX7_would_55 (by decide) ?_
        refine vx_ret ?_
        refine W.widen (k := 2) (n := 12) (by omega) (by omega) ?_
        exact W.iret (v := zI ((tryF σ ic2 load fr to an).2.1)) hx hb hr (fun t9 ht hW => ⟨⟨_, (), rfl, (by rw [show n0.toNat = ic2 by omega, if_neg cd47]), trivial⟩, vF_R ht hS.1 hk0⟩) hS.2.2 dX7_would_63

set_option maxRecDepth 100000 in
theorem vt54_X7_lift : ∀ w ∈ (vx_atS RX7 54 "java/lang/IllegalArgumentException" ["java/lang/RuntimeException", "java/lang/Exception"]).filter goodWord, w ∈ wsX7_lift := by decide +kernel
set_option maxHeartbeats 4000000 in
set_option maxRecDepth 100000 in
/-- X7_lift -/
theorem c_X7_lift (l : Launch) (hlT : l.stackTraces = false) (D : va_G) (cy : Nat → ClassId) (a q : Nat → Nat) (σ : Nat → Nat → Int) (sz : Nat) (n0 : Int) (hn0 : rg n0) (load : Int) (hload : rg load) (fr : Int) (hfr : rg fr) (to : Int) (hto : rg to) (an : Int) (han : rg an) (t0 : Int) (hO : okA t0 (σ 1 5) q σ) (ht9 : t0 < 1000000) : vx_Met l yX7_lift wsX7_lift ({ frames := 13, cells := 2, slots := 12, locals := 700 }) (va_Pc [.ref (a 0), .int (zI (n0)), .int (zI (load)), .int (zI (fr)), .int (zI (to)), .int (zI (an))] (fun U => U.heap.size = sz ∧ Wd D cy a q σ U)) (va_Qi (fun (r : Int32) (u : ((Nat → Nat) × (Nat → Nat → Int))) => ∃ z : Int, r = zI z ∧ (u.1 = q ∧ okA (t0 + 1) (u.2 1 5) u.1 u.2 ∧ Ev σ u.2 ∧ z = (tryF σ n0.toNat load fr to an).1 ∧ (σ 20 1 = 40 ∨ (u.2 20 1 = σ 20 1 + 1 ∧ u.2 (22 + q (σ 20 1).toNat) 0 = 0 ∧ u.2 (22 + q (σ 20 1).toNat) 1 = n0 ∧ u.2 (22 + q (σ 20 1).toNat) 3 = load ∧ u.2 (22 + q (σ 20 1).toNat) 4 = z ∧ u.2 (22 + q (σ 20 1).toNat) 6 = (tryF σ n0.toNat load fr to an).2.2)) ∧ u.2 1 = σ 1 ∧ 0 ≤ n0 ∧ n0 < σ 0 5 ∧ 1 ≤ load ∧ 10 ≤ fr ∧ fr ≤ σ (3 + n0.toNat) 1 ∧ 10 ≤ to ∧ to ≤ σ (3 + n0.toNat) 1)) (fun (u : ((Nat → Nat) × (Nat → Nat → Int))) t => Wd D cy a u.1 u.2 t) (wF a sz)) (vx_X (fun (_ : Unit) => True) (fun E _ _ => okE E) (fun _ => False)) 2 12 (wF a sz) := by
  refine vx_ofW (cc := cX7_lift) (maxL := 8) (ret := (some .int)) (by decide) rfl ?_
  intro p e s m args below meth c s₁ B hml hexc hpc0
  obtain ⟨rfl, hsz, hW0⟩ := hpc0
  have hx := B.exec
  have hb := B.bytes
  have hr := B.returns
  have hts := atoms_spec (ws := wsX7_lift) B.pre
  have hown : s.vm.findClass RX7 = some m.cls := findClass_of_methodNamed B.named
  have hlocks := B.notSynchronized
  subst hsz
  obtain ⟨hP00, hE0⟩ := id hW0
  obtain ⟨hK, hinj, hU0, hN0, hstr, hnest⟩ := id hE0
  have hP : va_P D vwCl (wld cy a q σ ++ []) s.heap := by rw [List.append_nil]; exact hP00
  have hD : va_D (wF a s.heap.size) (wld cy a q σ ++ []) := wD_of hinj
  have hA : ∀ x : Nat, s.heap.size ≤ x → wF a s.heap.size x := fun _ h => Or.inr h
  have hS : va_S (wF a s.heap.size) s.heap s.heap [] := va_S.rf
  have hk0 : ∀ x : Nat, x < s.heap.size → s.heap[x]? = s.heap[x]? := fun _ _ => rfl
  have hl := lv_entry ([.ref (a 0), .int (zI (n0)), .int (zI (load)), .int (zI (fr)), .int (zI (to)), .int (zI (an))]) (n := 8) (Nat.le_of_ble_eq_true rfl)
  rw [lg_entry_eq]
  generalize (lg_sl ([.ref (a 0), .int (zI (n0)), .int (zI (load)), .int (zI (fr)), .int (zI (to)), .int (zI (an))]) ++ List.replicate (8 - (lg_sl ([.ref (a 0), .int (zI (n0)), .int (zI (load)), .int (zI (fr)), .int (zI (to)), .int (zI (an))])).length) Slot.unset).toArray = ls at hl ⊢
  have hl : lv_has ls 8 [(0, .ref (a 0)), (1, .int (zI (n0))), (2, .int (zI (load))), (3, .int (zI (fr))), (4, .int (zI (to))), (5, .int (zI (an)))] := hl
  have k10 := hts (.fieldLink RX7 10 "Slewfree" "weather" "LSlewfree$Weather;") (by decide +kernel)
  have k42 := hts (.fieldLink RX7 42 "Slewfree" "log" "LSlewfree$Log;") (by decide +kernel)
  have k72 := hts (.fieldLink RX7 72 "Slewfree$Crane" "radius" "I") (by decide +kernel)
  have k83 := hts (.fieldLink RX7 83 "Slewfree$Crane" "number" "I") (by decide +kernel)
  have k104 := hts (.fieldLink RX7 104 "Slewfree$Weather" "wind" "I") (by decide +kernel)
  have k202 := hts (.fieldLink RX7 202 "Slewfree$Trial" "verdict" "I") (by decide +kernel)
  have k207 := hts (.fieldLink RX7 207 "Slewfree$Crane" "angle" "I") (by decide +kernel)
  have k211 := hts (.fieldLink RX7 211 "Slewfree$Crane" "liftsDone" "I") (by decide +kernel)
  have k214 := hts (.fieldLink RX7 214 "Slewfree$Trial" "leastCapacity" "I") (by decide +kernel)
  have inX0 : ∀ w ∈ u_ws RX0 TX0 12, w ∈ wsX7_lift := by decide +kernel
  have inX4 : ∀ w ∈ u_ws RX4 TX4 3, w ∈ wsX7_lift := by decide +kernel
  have inX5 : ∀ w ∈ u_ws RX5 TX5 7, w ∈ wsX7_lift := by decide +kernel
  have inX7 : ∀ w ∈ u_ws RX7 TX7 9, w ∈ wsX7_lift := by decide +kernel
  obtain ⟨oS, oW, oC, oZ, oM, oL, oP, oQ, oH⟩ := id hO
  unfold okS at oS; unfold okW at oW; unfold okL at oL
  refine lv_aload_n hx hb dX7_lift_0 rfl (lv_at hl 0 rfl) ?_
  refine lv_iload_n hx hb dX7_lift_1 rfl (lv_at hl 1 rfl) ?_
  refine vx_callr (vx_runV (As := [.int (zI (n0))]) (rest := []) ⟨hx, hb, hml, hown, hts⟩ (c_X7_craneAt l hlT D cy a q σ s.heap.size (n0) (by omega) (by first | assumption | omega)) (cwV 1 hts gX7_lift_X7_craneAt rfl rfl rfl (by decide +kernel) ⟨Nat.le_of_ble_eq_true rfl, Nat.le_of_ble_eq_true rfl⟩) ⟨Wd_blind, va_recv hK hP (ci := 9) (q0 := 0) rfl wg_S, fun U hU hW => ⟨rfl, by rw [hU], Wd_mk (wP_left hP) hE0 hS hU hW⟩⟩ rfl rfl hl.1 rfl (lv_room (Nat.le_of_ble_eq_true rfl)) dX7_lift_2 ⟨(show 0 + 1 ≤ 2 by omega), (show 0 + 6 ≤ 12 by omega)⟩) hS (fun _ _ h => h.elim) (fun _ h => wF_mono hS.1 _ h) (fun _ _ h => h.elim) (fun E9 ce9 q9 u9 t9 H locs ht hvm hpx hE hz hk hS1 hce hcv hcl => ?_) (fun u9 ra9 t9 H locs ht hvm hw hB hz hk hS1 => ?_)
  · skip
    refine vx_widen (k := 2) (n := 12) (by omega) (by omega) ?_
    exact vx_out (fun x h => (hexc x h).elim) hlocks hce hcv hcl (fun t9 ht9 hvm9 => ⟨(), trivial, hE, vF_R ht9 (Nat.le_trans hS.1 hz) (fun x h9 => (hk x (Nat.lt_of_lt_of_le h9 hS.1) (fun h => h)).trans (hk0 x h9))⟩) hS1.2.2 (Nat.le_refl _) (Nat.le_refl _)
  · skip
    have hP := hP.kept (fun k x hk9 => hk x.1 ((hP k x hk9).lt) (fun h => h))
    have hk0 : ∀ x : Nat, x < s.heap.size → H[x]? = s.heap[x]? := fun x h9 => (hk x (Nat.lt_of_lt_of_le h9 hS.1) (fun h => h)).trans (hk0 x h9)
    have hS := hS1
    subst hB
    obtain ⟨ic2, eic2⟩ : ∃ z : Nat, z = u9 := ⟨u9, rfl⟩
    rw [← eic2] at hw ⊢
    have hi2 := hw
    have oC_a := oC ic2 (by omega); unfold okC at oC_a
    refine lv_astore (lv' := [(6, .ref (a (3 + ic2))), (0, .ref (a 0)), (1, .int (zI (n0))), (2, .int (zI (load))), (3, .int (zI (fr))), (4, .int (zI (to))), (5, .int (zI (an)))]) hx hb dX7_lift_5 hl (by decide) rfl (fun ls hl => ?_)
    refine lv_aload hx hb dX7_lift_7 (lv_at hl 0 rfl) ?_
    refine lv_iload_n hx hb dX7_lift_9 rfl (lv_at hl 3 rfl) ?_
    refine lv_iload_n hx hb dX7_lift_10 rfl (lv_at hl 4 rfl) ?_
    refine lv_iload hx hb dX7_lift_11 (lv_at hl 5 rfl) ?_
    refine lv_iload hx hb dX7_lift_13 (lv_at hl 6 rfl) ?_
    refine va_calli (va_runS (As := [.ref (a (3 + ic2)), .int (zI (load)), .int (zI (fr)), .int (zI (to)), .int (zI (an))]) (rest := []) ⟨hx, hb, hml, hown, hts⟩ (c_X7_isNoLift l D cy a q σ H.size ic2 (by first | assumption | omega) (load) (by omega) (fr) (by omega) (to) (by omega) (an) (by omega) (by omega)) (va_cwS 5 hts gX7_lift_X7_isNoLift rfl rfl rfl (by decide +kernel) ⟨Nat.le_of_ble_eq_true rfl, Nat.le_of_ble_eq_true rfl⟩) ⟨Wd_blind, fun U hU hW => ⟨rfl, by rw [hU], Wd_mk (wP_left hP) hE0 hS hU hW⟩⟩ rfl rfl hl.1 rfl (lv_room (Nat.le_of_ble_eq_true rfl)) dX7_lift_15 ⟨(show 0 + 1 + 0 ≤ 2 by omega), (show 0 + 6 + 0 ≤ 12 by omega)⟩) hS (fun _ _ h => h.elim) (fun _ h => wF_mono hS.1 _ h) (fun rv15 u9 t9 H locs ht hvm hw hB hz hk hS1 => ?_)
    have hP := hP.kept (fun k x hk9 => hk x.1 ((hP k x hk9).lt) (fun h => h))
    have hk0 : ∀ x : Nat, x < s.heap.size → H[x]? = s.heap[x]? := fun x h9 => (hk x (Nat.lt_of_lt_of_le h9 hS.1) (fun h => h)).trans (hk0 x h9)
    have hS := hS1
    rcases hw with ⟨rfl, bd15⟩ | ⟨rfl, bd15⟩
    · skip
      refine z_if_eq (tgt := 31) hx hb dX7_lift_18 (by decide) (by decide) (fun cd18 => absurd cd18 (by decide)) (fun _ => ?_)
      obtain ⟨sa9, hsa9⟩ := hstr (196, "load is 1 to 199, radii 10 to reach, angle 0 to 23") (by decide)
      exact vx_throwS (names := ["java/lang/RuntimeException", "java/lang/Exception"]) (sa := sa9) hx hb hlT hown (by decide +kernel) (by decide +kernel) (hts (.classLink RX7 50 "java/lang/IllegalArgumentException") (by decide +kernel)) (hts (.initialized "java/lang/IllegalArgumentException") (by decide +kernel)) hsa9 (vx_hat (fun w h => hts w (vt54_X7_lift w h)) vf54 hnest.2.2.1.bad) vg54 hU0 hN0 hS (by rw [hml]; exact hl.1) dX7_lift_21 dX7_lift_24 dX7_lift_25 dX7_lift_27 dX7_lift_30 (fun x h => (hexc x h).elim) (Nat.le_of_ble_eq_true rfl) (Nat.le_of_ble_eq_true rfl) (show 0 + 1 + 0 + 1 ≤ 2 by omega) (show 0 + 6 + 0 + 6 ≤ 12 by omega) hlocks (fun t9 hvm9 hz9 hk9 => ⟨(), trivial, okE_A, Nat.le_trans hS.1 hz9, fun x h9 _ => (hk9 x (Nat.lt_of_lt_of_le h9 hS.1)).trans (hk0 x h9)⟩) hS.2.2 (by omega) (by omega)
    · skip
      refine z_if_eq (tgt := 31) hx hb dX7_lift_18 (by decide) (by decide) (fun _ => ?_) (fun cd18 => absurd cd18 (by decide))
      refine lv_aload_n hx hb dX7_lift_31 rfl (lv_at hl 1 rfl) ?_
      refine lv_aload hx hb dX7_lift_32 (lv_at hl 0 rfl) ?_
      refine lv_iload_n hx hb dX7_lift_34 rfl (lv_at hl 3 rfl) ?_
      refine lv_iload_n hx hb dX7_lift_35 rfl (lv_at hl 4 rfl) ?_
      refine lv_iload hx hb dX7_lift_36 (lv_at hl 5 rfl) ?_
      refine lv_iload hx hb dX7_lift_38 (lv_at hl 6 rfl) ?_
      refine va_callr (va_runV (As := [.ref (a (3 + ic2)), .int (zI (load)), .int (zI (fr)), .int (zI (to)), .int (zI (an))]) (rest := []) ⟨hx, hb, hml, hown, hts⟩ (c_X7_tryLift l D cy a q σ H.size ic2 (by first | assumption | omega) (load) (by omega) (fr) (by omega) (to) (by omega) (an) (by omega) (by omega) (by omega) _ _ hO) (cwV 5 hts gX7_lift_X7_tryLift rfl rfl rfl (by decide +kernel) ⟨Nat.le_of_ble_eq_true rfl, Nat.le_of_ble_eq_true rfl⟩) ⟨Wd_blind, va_recv hK hP (ci := 9) (q0 := 0) rfl wg_S, fun U hU hW => ⟨rfl, by rw [hU], Wd_mk (wP_left hP) hE0 hS hU hW⟩⟩ rfl rfl hl.1 rfl (lv_room (Nat.le_of_ble_eq_true rfl)) dX7_lift_40 ⟨(show 0 + 1 + 0 + 1 ≤ 2 by omega), (show 0 + 6 + 0 + 3 ≤ 12 by omega)⟩) hS (fun _ _ h => h.elim) (fun _ h => wF_mono hS.1 _ h) (fun u9 ra9 t9 H locs ht hvm hw hB hz hk hS1 => ?_)
      obtain ⟨hPt, hDt⟩ := hB
      rw [ht] at hPt
      have hP := hPt
      have hD := hDt.weaken (fun _ _ _ h => wF_mono hS.1 _ h)
      have hk0 : ∀ x : Nat, x < s.heap.size → H[x]? = s.heap[x]? := fun x h9 => (hk x (Nat.lt_of_lt_of_le h9 hS.1) (fun h => h)).trans (hk0 x h9)
      have hS := hS1
      obtain ⟨xt, ext⟩ : ∃ z : Nat, z = ra9 := ⟨ra9, rfl⟩
      rw [← ext] at hP hD ⊢
      have tn9 := tryF_n (σ := σ) (i := ic2) (load := load) (fr := fr) (to := to) (an := an) oC_a.2.2.2.2.1 (by omega) (by omega) (by omega)
      refine lv_astore (lv' := [(7, .ref (xt)), (6, .ref (a (3 + ic2))), (0, .ref (a 0)), (1, .int (zI (n0))), (2, .int (zI (load))), (3, .int (zI (fr))), (4, .int (zI (to))), (5, .int (zI (an)))]) hx hb dX7_lift_43 hl (by decide) rfl (fun ls hl => ?_)
      refine lv_aload hx hb dX7_lift_45 (lv_at hl 0 rfl) ?_
      refine va_get (D := D) (ci := 6) (v := .int (zI ((tryF σ ic2 load fr to an).1))) (C := RX4) (T := TX4) (N := 3) hx hb hts inX4 hown hK hP 62 wg_X rfl 0 (by decide) k202 (fun _ h9 => h9) rfl dX7_lift_47 ?_
      refine z_if_ne (tgt := 84) hx hb dX7_lift_50 (by decide) (by omega) (fun cd50 => ?_) (fun cd50 => ?_)
      · skip
        have hO1 : okA (t0 + 1) (σ 1 5) q σ := okA_mono hO (by omega) (by omega)
        have hE1 := Ev.rf σ
        have h1s : σ 1 = σ 1 := rfl
        have h20 : σ 20 = σ 20 := rfl
        have hn2 : σ (3 + ic2) 0 = ic2 := by omega
        refine lv_aload_n hx hb dX7_lift_84 rfl (lv_at hl 2 rfl) ?_
        refine va_get (D := D) (ci := 9) (v := .ref (a 20)) (C := RX7) (T := TX7) (N := 9) hx hb hts inX7 hown hK hP 0 wg_S rfl 4 (by decide) k42 (fun _ h9 => h9) rfl dX7_lift_85 ?_
        refine lv_iconst (v := zI 0) hx hb dX7_lift_88 rfl ?_
        refine lv_aload hx hb dX7_lift_89 (lv_at hl 1 rfl) ?_
        refine va_get (D := D) (ci := 2) (v := .int (zI (σ (3 + ic2) 0))) (C := RX0) (T := TX0) (N := 12) hx hb hts inX0 hown hK hP (3 + ic2) (wg_C (i := ic2) (by first | assumption | omega)) rfl 0 (by decide) k83 (fun _ h9 => h9) rfl dX7_lift_91 ?_
        refine lv_aload_n hx hb dX7_lift_94 rfl (lv_at hl 2 rfl) ?_
        refine va_get (D := D) (ci := 9) (v := .ref (a 1)) (C := RX7) (T := TX7) (N := 9) hx hb hts inX7 hown hK hP 0 wg_S rfl 0 (by decide) k10 (fun _ h9 => h9) rfl dX7_lift_95 ?_
        refine va_get (D := D) (ci := 7) (v := .int (zI (σ 1 5))) (C := RX5) (T := TX5) (N := 7) hx hb hts inX5 hown hK hP 1 wg_W rfl 5 (by decide) k104 (fun _ h9 => h9) rfl dX7_lift_98 ?_
        refine lv_iload_n hx hb dX7_lift_101 rfl (lv_at hl 4 rfl) ?_
        refine lv_aload hx hb dX7_lift_102 (lv_at hl 0 rfl) ?_
        refine va_get (D := D) (ci := 6) (v := .int (zI ((tryF σ ic2 load fr to an).1))) (C := RX4) (T := TX4) (N := 3) hx hb hts inX4 hown hK hP 62 wg_X rfl 0 (by decide) k202 (fun _ h9 => h9) rfl dX7_lift_104 ?_
        refine lv_aload hx hb dX7_lift_107 (lv_at hl 0 rfl) ?_
        refine va_get (D := D) (ci := 6) (v := .int (zI ((tryF σ ic2 load fr to an).2.2))) (C := RX4) (T := TX4) (N := 3) hx hb hts inX4 hown hK hP 62 wg_X rfl 2 (by decide) k214 (fun _ h9 => h9) rfl dX7_lift_109 ?_
        refine va_callv (va_runV (As := [.int (zI (0)), .int (zI (σ (3 + ic2) 0)), .int (zI (σ 1 5)), .int (zI (load)), .int (zI ((tryF σ ic2 load fr to an).1)), .int (zI ((tryF σ ic2 load fr to an).2.2))]) (rest := []) ⟨hx, hb, hml, hown, hts⟩ (c_X1_write l D cy a q σ H.size (0) (by omega) (σ (3 + ic2) 0) (by omega) (σ 1 5) (by omega) (load) (by omega) ((tryF σ ic2 load fr to an).1) (by omega) ((tryF σ ic2 load fr to an).2.2) (by omega) (by first | assumption | omega) _ _ hO1) (cwV 6 hts gX7_lift_X1_write rfl rfl rfl (by decide +kernel) ⟨Nat.le_of_ble_eq_true rfl, Nat.le_of_ble_eq_true rfl⟩) ⟨Wd_blind, va_recv hK hP (ci := 3) (q0 := 20) rfl wg_L, fun U hU hW => ⟨rfl, by rw [hU], Wd_mk (wP_left hP) hE0 hS hU hW⟩⟩ rfl rfl hl.1 rfl (lv_room (Nat.le_of_ble_eq_true rfl)) dX7_lift_112 ⟨(show 0 + 1 + 0 + 1 + 0 ≤ 2 by omega), (show 0 + 6 + 0 + 3 + 0 ≤ 12 by omega)⟩) hS (fun _ _ h => wF_mono hS.1 _ h) (fun _ h => wF_mono hS.1 _ h) (fun u9 t9 H locs ht hvm hw hB hz hk hS1 => ?_)
        obtain ⟨qc112, σc112⟩ := u9
        have hB1 : va_P D vwCl (wld cy a qc112 σc112) t9.heap := hB.1
        rw [ht] at hB1
        obtain ⟨hP, hD⟩ := wd_join hP hD hk hB1
        try dsimp only at hw
        have hS := hS1
        have hw112 := hw
        obtain ⟨hq9, hO3, hWr⟩ := hw112
        obtain rfl : q = qc112 := hq9.symm
        have h1t : σc112 1 = σ 1 := by rw [hWr.1 1 (by omega), h1s]
        have hO2 : okA (t0 + 1) (σc112 1 5) q σc112 := by rw [h1t]; exact hO3
        have hE2 : Ev σ σc112 := hE1.tr hWr.ev
        have hW2 := hWr.2
        rw [h20] at hW2
        refine lv_aload hx hb dX7_lift_115 (lv_at hl 0 rfl) ?_
        refine va_get (D := D) (ci := 6) (v := .int (zI ((tryF σ ic2 load fr to an).1))) (C := RX4) (T := TX4) (N := 3) hx hb hts inX4 hown hK hP 62 wg_X rfl 0 (by decide) k202 (fun _ h9 => h9) rfl dX7_lift_117 ?_
        refine vx_ret ?_
        refine W.widen (k := 2) (n := 12) (by omega) (by omega) ?_
        exact W.iret (v := zI ((tryF σ ic2 load fr to an).1)) hx hb hr (fun t9 ht hW => ⟨⟨_, (q, σc112), rfl, ⟨_, rfl, (by
            refine ⟨rfl, hO2, hE2, by rw [show n0.toNat = ic2 by omega], ?_, h1t, by omega, by omega, by omega, by omega, by rw [show n0.toNat = ic2 by omega]; omega, by omega, by rw [show n0.toNat = ic2 by omega]; omega⟩
            rcases hW2 with hW2 | hW2
            · right
              obtain ⟨w0, w1, w2, w3, w4, w5, w6, w7⟩ := hW2
              dsimp only
              exact ⟨w1, w3, by rw [w4]; omega, w5, w6, by rw [w7, show n0.toNat = ic2 by omega]⟩
            · left
              omega)⟩, Wd_mk (wP_left hP) hE0 hS ht hW⟩, hS.F ht⟩) hS.2.2 dX7_lift_120
      · skip
        refine lv_aload hx hb dX7_lift_53 (lv_at hl 1 rfl) ?_
        refine lv_iload hx hb dX7_lift_55 (lv_at hl 7 rfl) ?_
        refine w_put (ty := .int) (z := an) (C := RX0) (T := TX0) (N := 12) hx hb hts inX0 tyX0 tyX0_ok nmX0 hown hK hP hD hS (3 + ic2) (by omega) (ci := 2) (fs := fC) (fun _ => wc_C (i := ic2) (by first | assumption | omega)) rfl 3 (by decide) k207 (fun _ h9 => h9) rfl (by decide +kernel) rfl rfl (Nat.le_of_ble_eq_true rfl) rfl dX7_lift_57 (fun H locs hP hD hS => ?_)
        obtain ⟨σp57, eσp57⟩ : ∃ z, z = up2 σ (3 + ic2) 3 (an) := ⟨_, rfl⟩
        rw [← eσp57] at hP hD
        refine lv_aload hx hb dX7_lift_60 (lv_at hl 1 rfl) ?_
        refine lv_iload hx hb dX7_lift_62 (lv_at hl 6 rfl) ?_
        refine w_put (ty := .int) (z := to) (C := RX0) (T := TX0) (N := 12) hx hb hts inX0 tyX0 tyX0_ok nmX0 hown hK hP hD hS (3 + ic2) (by omega) (ci := 2) (fs := fC) (fun _ => wc_C (i := ic2) (by first | assumption | omega)) rfl 4 (by decide) k72 (fun _ h9 => h9) rfl (by decide +kernel) rfl rfl (Nat.le_of_ble_eq_true rfl) rfl dX7_lift_64 (fun H locs hP hD hS => ?_)
        obtain ⟨σp64, eσp64⟩ : ∃ z, z = up2 σp57 (3 + ic2) 4 (to) := ⟨_, rfl⟩
        rw [← eσp64] at hP hD
        refine lv_aload hx hb dX7_lift_67 (lv_at hl 1 rfl) ?_
        refine lv_iload_n hx hb dX7_lift_69 rfl (lv_at hl 4 rfl) ?_
        have f10 : σp64 (3 + ic2) 10 = σ (3 + ic2) 10 := by rw [eσp64, g_fe (by decide), eσp57, g_fe (by decide)]
        have f2 : σp64 (3 + ic2) 2 = σ (3 + ic2) 2 := by rw [eσp64, g_fe (by decide), eσp57, g_fe (by decide)]
        refine va_callv (va_runV (As := [.int (zI (load))]) (rest := []) ⟨hx, hb, hml, hown, hts⟩ (c_X0_wearBy l D cy a q σp64 H.size ic2 (by first | assumption | omega) (load) (by omega) (by rw [f10]; omega) (by omega) (by rw [f2]; omega)) (cwV 1 hts gX7_lift_X0_wearBy rfl rfl rfl (by decide +kernel) ⟨Nat.le_of_ble_eq_true rfl, Nat.le_of_ble_eq_true rfl⟩) ⟨Wd_blind, va_recv hK hP (ci := 2) (q0 := (3 + ic2)) rfl (wg_C (i := ic2) (by first | assumption | omega)), fun U hU hW => ⟨rfl, by rw [hU], Wd_mk (wP_left hP) hE0 hS hU hW⟩⟩ rfl rfl hl.1 rfl (lv_room (Nat.le_of_ble_eq_true rfl)) dX7_lift_70 ⟨(show 0 + 1 + 0 + 1 + 0 ≤ 2 by omega), (show 0 + 6 + 0 + 3 + 0 ≤ 12 by omega)⟩) hS (fun _ _ h => wF_mono hS.1 _ h) (fun _ h => wF_mono hS.1 _ h) (fun u9 t9 H locs ht hvm hw hB hz hk hS1 => ?_)
        obtain ⟨qc70, σc70⟩ := u9
        have hB1 : va_P D vwCl (wld cy a qc70 σc70) t9.heap := hB.1
        rw [ht] at hB1
        obtain ⟨hP, hD⟩ := wd_join hP hD hk hB1
        try dsimp only at hw
        have hS := hS1
        have hw70 := hw
        obtain ⟨hq9, hs70⟩ := hw70
        obtain rfl : q = qc70 := hq9.symm
        rw [f10, f2] at hs70
        have fl : σc70 (3 + ic2) 11 = σ (3 + ic2) 11 := by rw [hs70, g_fe (by decide), eσp64, g_fe (by decide), eσp57, g_fe (by decide)]
        refine lv_aload hx hb dX7_lift_73 (lv_at hl 1 rfl) ?_
        refine lv_dup hx hb dX7_lift_75 rfl ?_
        refine va_get (D := D) (ci := 2) (v := .int (zI (σc70 (3 + ic2) 11))) (C := RX0) (T := TX0) (N := 12) hx hb hts inX0 hown hK hP (3 + ic2) (wg_C (i := ic2) (by first | assumption | omega)) rfl 11 (by decide) k211 (fun _ h9 => h9) rfl dX7_lift_76 ?_
        refine lv_iconst (v := zI 1) hx hb dX7_lift_79 rfl ?_
        refine z_iadd hx hb dX7_lift_80 ?_
        refine w_put (ty := .int) (z := (σc70 (3 + ic2) 11) + 1) (C := RX0) (T := TX0) (N := 12) hx hb hts inX0 tyX0 tyX0_ok nmX0 hown hK hP hD hS (3 + ic2) (by omega) (ci := 2) (fs := fC) (fun _ => wc_C (i := ic2) (by first | assumption | omega)) rfl 11 (by decide) k211 (fun _ h9 => h9) rfl (by decide +kernel) rfl rfl (Nat.le_of_ble_eq_true rfl) rfl dX7_lift_81 (fun H locs hP hD hS => ?_)
        obtain ⟨σp81, eσp81⟩ : ∃ z, z = up2 σc70 (3 + ic2) 11 ((σc70 (3 + ic2) 11) + 1) := ⟨_, rfl⟩
        rw [← eσp81] at hP hD
        rw [fl] at eσp81
        have eR : σp81 = upR σ (3 + ic2) (upr (upr (upr (upr (σ (3 + ic2)) 3 an) 4 to) 10 (σ (3 + ic2) 10 + (load * σ (3 + ic2) 2 / 4 + 1))) 11 (σ (3 + ic2) 11 + 1)) := by
          rw [eσp81, hs70, eσp64, eσp57]
          simp only [up2, upR_s, upR_R]
        have hm9 : 0 ≤ load * σ (3 + ic2) 2 ∧ load * σ (3 + ic2) 2 ≤ 796 := by rcases oC_a.2.2.2.2.2.2.2.2.2 (by omega) with ⟨-, -, h | h, -⟩ <;> rw [h] <;> omega
        have hwn := (tryF_w cd50).2
        have hO1 : okA (t0 + 1) (σ 1 5) q σp81 := by
          rw [eR]
          refine okA_C (okA_mono hO (by omega) (by omega)) (by omega) ?_
          show σ (3 + ic2) 0 = ic2 ∧ 0 ≤ (an : Int) ∧ (an : Int) ≤ 23 ∧ (σ (3 + ic2) 5 = 0 ∨ σ (3 + ic2) 5 = 1) ∧ (0 ≤ σ (3 + ic2) 9 ∧ σ (3 + ic2) 9 ≤ σ (3 + ic2) 8 ∧ σ (3 + ic2) 8 ≤ σ (3 + ic2) 7 ∧ σ (3 + ic2) 7 ≤ σ (3 + ic2) 6 ∧ σ (3 + ic2) 6 ≤ 99) ∧ 0 ≤ (σ (3 + ic2) 10 + (load * σ (3 + ic2) 2 / 4 + 1) : Int) ∧ (σ (3 + ic2) 10 + (load * σ (3 + ic2) 2 / 4 + 1) : Int) ≤ 1000 ∧ 0 ≤ (σ (3 + ic2) 11 + 1 : Int) ∧ (σ (3 + ic2) 11 + 1 : Int) ≤ t0 + 1 ∧ ((ic2 : Int) < σ 0 5 → 10 ≤ σ (3 + ic2) 1 ∧ σ (3 + ic2) 1 ≤ 40 ∧ (σ (3 + ic2) 2 = 2 ∨ σ (3 + ic2) 2 = 4) ∧ 10 ≤ (to : Int) ∧ (to : Int) ≤ σ (3 + ic2) 1 ∧ (12 < σ 1 5 → σ (3 + ic2) 5 = 0))
          omega
        have hE1 : Ev σ σp81 := by rw [eR]; exact Ev_C (by omega) (show σ (3 + ic2) 11 ≤ σ (3 + ic2) 11 + 1 by omega)
        have h1s : σp81 1 = σ 1 := by rw [eR, upR_n (by omega)]
        have h20 : σp81 20 = σ 20 := by rw [eR, upR_n (by omega)]
        have hn2 : σp81 (3 + ic2) 0 = ic2 := by rw [eR, upR_s]; show σ (3 + ic2) 0 = _; omega
        have h1c : σc70 1 5 = σ 1 5 := by rw [hs70, g_ne (by omega), eσp64, g_ne (by omega), eσp57, g_ne (by omega)]
        have hnc : σc70 (3 + ic2) 0 = ic2 := by rw [← hn2, eσp81, g_fe (by decide)]
        refine lv_aload_n hx hb dX7_lift_84 rfl (lv_at hl 2 rfl) ?_
        refine va_get (D := D) (ci := 9) (v := .ref (a 20)) (C := RX7) (T := TX7) (N := 9) hx hb hts inX7 hown hK hP 0 wg_S rfl 4 (by decide) k42 (fun _ h9 => h9) rfl dX7_lift_85 ?_
        refine lv_iconst (v := zI 0) hx hb dX7_lift_88 rfl ?_
        refine lv_aload hx hb dX7_lift_89 (lv_at hl 1 rfl) ?_
        refine va_get (D := D) (ci := 2) (v := .int (zI (σc70 (3 + ic2) 0))) (C := RX0) (T := TX0) (N := 12) hx hb hts inX0 hown hK hP (3 + ic2) (wg_C (i := ic2) (by first | assumption | omega)) rfl 0 (by decide) k83 (fun _ h9 => h9) (by show some (Value.int (zI (σp81 (3 + ic2) 0))) = some (Value.int (zI (σc70 (3 + ic2) 0))); rw [eσp81, g_fe (by decide)]) dX7_lift_91 ?_
        refine lv_aload_n hx hb dX7_lift_94 rfl (lv_at hl 2 rfl) ?_
        refine va_get (D := D) (ci := 9) (v := .ref (a 1)) (C := RX7) (T := TX7) (N := 9) hx hb hts inX7 hown hK hP 0 wg_S rfl 0 (by decide) k10 (fun _ h9 => h9) rfl dX7_lift_95 ?_
        refine va_get (D := D) (ci := 7) (v := .int (zI (σc70 1 5))) (C := RX5) (T := TX5) (N := 7) hx hb hts inX5 hown hK hP 1 wg_W rfl 5 (by decide) k104 (fun _ h9 => h9) (by show some (Value.int (zI (σp81 1 5))) = some (Value.int (zI (σc70 1 5))); rw [eσp81, g_ne (by omega)]) dX7_lift_98 ?_
        refine lv_iload_n hx hb dX7_lift_101 rfl (lv_at hl 4 rfl) ?_
        refine lv_aload hx hb dX7_lift_102 (lv_at hl 0 rfl) ?_
        refine va_get (D := D) (ci := 6) (v := .int (zI ((tryF σ ic2 load fr to an).1))) (C := RX4) (T := TX4) (N := 3) hx hb hts inX4 hown hK hP 62 wg_X rfl 0 (by decide) k202 (fun _ h9 => h9) rfl dX7_lift_104 ?_
        refine lv_aload hx hb dX7_lift_107 (lv_at hl 0 rfl) ?_
        refine va_get (D := D) (ci := 6) (v := .int (zI ((tryF σ ic2 load fr to an).2.2))) (C := RX4) (T := TX4) (N := 3) hx hb hts inX4 hown hK hP 62 wg_X rfl 2 (by decide) k214 (fun _ h9 => h9) rfl dX7_lift_109 ?_
        refine va_callv (va_runV (As := [.int (zI (0)), .int (zI (σc70 (3 + ic2) 0)), .int (zI (σc70 1 5)), .int (zI (load)), .int (zI ((tryF σ ic2 load fr to an).1)), .int (zI ((tryF σ ic2 load fr to an).2.2))]) (rest := []) ⟨hx, hb, hml, hown, hts⟩ (c_X1_write l D cy a q σp81 H.size (0) (by omega) (σc70 (3 + ic2) 0) (by omega) (σc70 1 5) (by omega) (load) (by omega) ((tryF σ ic2 load fr to an).1) (by omega) ((tryF σ ic2 load fr to an).2.2) (by omega) (by first | assumption | omega) _ _ hO1) (cwV 6 hts gX7_lift_X1_write rfl rfl rfl (by decide +kernel) ⟨Nat.le_of_ble_eq_true rfl, Nat.le_of_ble_eq_true rfl⟩) ⟨Wd_blind, va_recv hK hP (ci := 3) (q0 := 20) rfl wg_L, fun U hU hW => ⟨rfl, by rw [hU], Wd_mk (wP_left hP) hE0 hS hU hW⟩⟩ rfl rfl hl.1 rfl (lv_room (Nat.le_of_ble_eq_true rfl)) dX7_lift_112 ⟨(show 0 + 1 + 0 + 1 + 0 + 0 ≤ 2 by omega), (show 0 + 6 + 0 + 3 + 0 + 0 ≤ 12 by omega)⟩) hS (fun _ _ h => wF_mono hS.1 _ h) (fun _ h => wF_mono hS.1 _ h) (fun u9 t9 H locs ht hvm hw hB hz hk hS1 => ?_)
        obtain ⟨qc112, σc112⟩ := u9
        have hB1 : va_P D vwCl (wld cy a qc112 σc112) t9.heap := hB.1
        rw [ht] at hB1
        obtain ⟨hP, hD⟩ := wd_join hP hD hk hB1
        try dsimp only at hw
        have hS := hS1
        have hw112 := hw
        obtain ⟨hq9, hO3, hWr⟩ := hw112
        obtain rfl : q = qc112 := hq9.symm
        have h1t : σc112 1 = σ 1 := by rw [hWr.1 1 (by omega), h1s]
        have hO2 : okA (t0 + 1) (σc112 1 5) q σc112 := by rw [h1t]; exact hO3
        have hE2 : Ev σ σc112 := hE1.tr hWr.ev
        have hW2 := hWr.2
        rw [h20] at hW2
        refine lv_aload hx hb dX7_lift_115 (lv_at hl 0 rfl) ?_
        refine va_get (D := D) (ci := 6) (v := .int (zI ((tryF σ ic2 load fr to an).1))) (C := RX4) (T := TX4) (N := 3) hx hb hts inX4 hown hK hP 62 wg_X rfl 0 (by decide) k202 (fun _ h9 => h9) rfl dX7_lift_117 ?_
        refine vx_ret ?_
        refine W.widen (k := 2) (n := 12) (by omega) (by omega) ?_
        exact W.iret (v := zI ((tryF σ ic2 load fr to an).1)) hx hb hr (fun t9 ht hW => ⟨⟨_, (q, σc112), rfl, ⟨_, rfl, (by
            refine ⟨rfl, hO2, hE2, by rw [show n0.toNat = ic2 by omega], ?_, h1t, by omega, by omega, by omega, by omega, by rw [show n0.toNat = ic2 by omega]; omega, by omega, by rw [show n0.toNat = ic2 by omega]; omega⟩
            rcases hW2 with hW2 | hW2
            · right
              obtain ⟨w0, w1, w2, w3, w4, w5, w6, w7⟩ := hW2
              dsimp only
              exact ⟨w1, w3, by rw [w4]; omega, w5, w6, by rw [w7, show n0.toNat = ic2 by omega]⟩
            · left
              omega)⟩, Wd_mk (wP_left hP) hE0 hS ht hW⟩, hS.F ht⟩) hS.2.2 dX7_lift_120
