set_option maxRecDepth 100000 in
theorem vt54_X7_ofCrane : ∀ w ∈ (vx_atS RX7 54 "java/lang/IllegalArgumentException" ["java/lang/RuntimeException", "java/lang/Exception"]).filter goodWord, w ∈ wsX7_ofCrane := by decide +kernel
set_option maxHeartbeats 4000000 in
set_option maxRecDepth 100000 in
/-- X7_ofCrane -/
theorem c_X7_ofCrane (l : Launch) (hlT : l.stackTraces = false) (D : va_G) (cy : Nat → ClassId) (a q : Nat → Nat) (σ : Nat → Nat → Int) (sz : Nat) (n0 : Int) (hn0 : rg n0) (wt : Int) (hwt : rg wt) (t0 : Int) (wi : Int) (hO : okA t0 wi q σ) : vx_Met l yX7_ofCrane wsX7_ofCrane ({ frames := 10, cells := 2, slots := 12, locals := 400 }) (va_Pc [.ref (a 0), .int (zI (n0)), .int (zI (wt))] (fun U => U.heap.size = sz ∧ Wd D cy a q σ U)) (va_Qi (fun (r : Int32) (_ : Unit) => r = zI (ofF σ n0.toNat wt)) (fun _ _ => True) (fun _ => False)) (vx_X (fun (_ : Unit) => n0 < 0 ∨ σ 0 5 ≤ n0 ∨ wt < 0 ∨ 9 < wt) (fun E _ _ => okE E) (fun _ => False)) 2 12 (wF a sz) := by
  refine vx_ofW (cc := cX7_ofCrane) (maxL := 4) (ret := (some .int)) (by decide) rfl ?_
  intro p e s m args below meth c s₁ B hml hexc hpc0
  obtain ⟨rfl, hsz, hW0⟩ := hpc0
  have hx := B.exec
  have hb := B.bytes
  have hr := B.returns
  have hts := atoms_spec (ws := wsX7_ofCrane) B.pre
  have hown : s.vm.findClass RX7 = some m.cls := findClass_of_methodNamed B.named
  have hlocks := B.notSynchronized
  subst hsz
  obtain ⟨hP00, hE0⟩ := id hW0
  obtain ⟨hK, hinj, hU0, hN0, hstr, hnest⟩ := id hE0
  have hP : va_P D vwCl (wld cy a q σ ++ []) s.heap := by rw [List.append_nil]; exact hP00
  have hD : va_D (wF a s.heap.size) (wld cy a q σ ++ []) := wD_of hinj
  have hA : ∀ x : Nat, s.heap.size ≤ x → wF a s.heap.size x := fun _ h => Or.inr h
  have hS : va_S (wF a s.heap.size) s.heap s.heap [] := va_S.rf
  have hk0 : ∀ x : Nat, x < s.heap.size → s.heap[x]? = s.heap[x]? := fun _ _ => rfl
  have hl := lv_entry ([.ref (a 0), .int (zI (n0)), .int (zI (wt))]) (n := 4) (Nat.le_of_ble_eq_true rfl)
  rw [lg_entry_eq]
  generalize (lg_sl ([.ref (a 0), .int (zI (n0)), .int (zI (wt))]) ++ List.replicate (4 - (lg_sl ([.ref (a 0), .int (zI (n0)), .int (zI (wt))])).length) Slot.unset).toArray = ls at hl ⊢
  have hl : lv_has ls 4 [(0, .ref (a 0)), (1, .int (zI (n0))), (2, .int (zI (wt)))] := hl
  have k10 := hts (.fieldLink RX7 10 "Slewfree" "weather" "LSlewfree$Weather;") (by decide +kernel)
  have k66 := hts (.fieldLink RX7 66 "Slewfree$Crane" "reach" "I") (by decide +kernel)
  have k69 := hts (.fieldLink RX7 69 "Slewfree$Crane" "falls" "I") (by decide +kernel)
  have k72 := hts (.fieldLink RX7 72 "Slewfree$Crane" "radius" "I") (by decide +kernel)
  have k79 := hts (.fieldLink RX7 79 "Slewfree$Crane" "isLocked" "Z") (by decide +kernel)
  have k104 := hts (.fieldLink RX7 104 "Slewfree$Weather" "wind" "I") (by decide +kernel)
  have k156 := hts (.fieldLink RX7 156 "Slewfree$Crane" "wear" "I") (by decide +kernel)
  have k167 := hts (.fieldLink RX7 167 "Slewfree$Weather" "direction" "I") (by decide +kernel)
  have k207 := hts (.fieldLink RX7 207 "Slewfree$Crane" "angle" "I") (by decide +kernel)
  have k211 := hts (.fieldLink RX7 211 "Slewfree$Crane" "liftsDone" "I") (by decide +kernel)
  have inX0 : ∀ w ∈ u_ws RX0 TX0 12, w ∈ wsX7_ofCrane := by decide +kernel
  have inX5 : ∀ w ∈ u_ws RX5 TX5 7, w ∈ wsX7_ofCrane := by decide +kernel
  have inX7 : ∀ w ∈ u_ws RX7 TX7 9, w ∈ wsX7_ofCrane := by decide +kernel
  obtain ⟨oS, oW, oC, oZ, oM, oL, oP, oQ, oH⟩ := id hO
  unfold okS at oS; unfold okW at oW; unfold okL at oL
  refine lv_aload_n hx hb dX7_ofCrane_0 rfl (lv_at hl 0 rfl) ?_
  refine lv_iload_n hx hb dX7_ofCrane_1 rfl (lv_at hl 1 rfl) ?_
  refine vx_callr (vx_runV (As := [.int (zI (n0))]) (rest := []) ⟨hx, hb, hml, hown, hts⟩ (c_X7_craneAt l hlT D cy a q σ s.heap.size (n0) (by omega) (by first | assumption | omega)) (cwV 1 hts gX7_ofCrane_X7_craneAt rfl rfl rfl (by decide +kernel) ⟨Nat.le_of_ble_eq_true rfl, Nat.le_of_ble_eq_true rfl⟩) ⟨Wd_blind, va_recv hK hP (ci := 9) (q0 := 0) rfl wg_S, fun U hU hW => ⟨rfl, by rw [hU], Wd_mk (wP_left hP) hE0 hS hU hW⟩⟩ rfl rfl hl.1 rfl (lv_room (Nat.le_of_ble_eq_true rfl)) dX7_ofCrane_2 ⟨(show 0 + 1 ≤ 2 by omega), (show 0 + 6 ≤ 12 by omega)⟩) hS (fun _ _ h => h.elim) (fun _ h => wF_mono hS.1 _ h) (fun _ _ h => h.elim) (fun E9 ce9 q9 u9 t9 H locs ht hvm hpx hE hz hk hS1 hce hcv hcl => ?_) (fun u9 ra9 t9 H locs ht hvm hw hB hz hk hS1 => ?_)
  · skip
    refine vx_widen (k := 2) (n := 12) (by omega) (by omega) ?_
    exact vx_out (fun x h => (hexc x h).elim) hlocks hce hcv hcl (fun t9 ht9 hvm9 => ⟨(), (by first | exact hpx | omega), hE, vF_R ht9 (Nat.le_trans hS.1 hz) (fun x h9 => (hk x (Nat.lt_of_lt_of_le h9 hS.1) (fun h => h)).trans (hk0 x h9))⟩) hS1.2.2 (Nat.le_refl _) (Nat.le_refl _)
  · skip
    have hP := hP.kept (fun k x hk9 => hk x.1 ((hP k x hk9).lt) (fun h => h))
    have hk0 : ∀ x : Nat, x < s.heap.size → H[x]? = s.heap[x]? := fun x h9 => (hk x (Nat.lt_of_lt_of_le h9 hS.1) (fun h => h)).trans (hk0 x h9)
    have hS := hS1
    subst hB
    obtain ⟨ic2, eic2⟩ : ∃ z : Nat, z = u9 := ⟨u9, rfl⟩
    rw [← eic2] at hw ⊢
    have hi2 := hw
    have oC_a := oC ic2 (by omega); unfold okC at oC_a
    refine lv_astore_n (lv' := [(3, .ref (a (3 + ic2))), (0, .ref (a 0)), (1, .int (zI (n0))), (2, .int (zI (wt)))]) hx hb dX7_ofCrane_5 rfl hl (by decide) rfl (fun ls hl => ?_)
    refine lv_iload_n hx hb dX7_ofCrane_6 rfl (lv_at hl 3 rfl) ?_
    have hx7 : (zI (wt)).toInt = wt := zI_toInt (by omega)
    by_cases cd7 : wt < 0 ∨ 9 < wt
    · refine lv_tableOut (tgt := 147) hx hb dX7_ofCrane_7 (by rw [hx7]; exact cd7) (by decide) ?_
      obtain ⟨sa9, hsa9⟩ := hstr (247, "what is 0 to 9") (by decide)
      exact vx_throwS (names := ["java/lang/RuntimeException", "java/lang/Exception"]) (sa := sa9) hx hb hlT hown (by decide +kernel) (by decide +kernel) (hts (.classLink RX7 50 "java/lang/IllegalArgumentException") (by decide +kernel)) (hts (.initialized "java/lang/IllegalArgumentException") (by decide +kernel)) hsa9 (vx_hat (fun w h => hts w (vt54_X7_ofCrane w h)) vf54 hnest.2.2.1.bad) vg54 hU0 hN0 hS (by rw [hml]; exact hl.1) dX7_ofCrane_147 dX7_ofCrane_150 dX7_ofCrane_151 dX7_ofCrane_153 dX7_ofCrane_156 (fun x h => (hexc x h).elim) (Nat.le_of_ble_eq_true rfl) (Nat.le_of_ble_eq_true rfl) (show 0 + 1 + 1 ≤ 2 by omega) (show 0 + 6 + 6 ≤ 12 by omega) hlocks (fun t9 hvm9 hz9 hk9 => ⟨(), (by omega), okE_A, Nat.le_trans hS.1 hz9, fun x h9 _ => (hk9 x (Nat.lt_of_lt_of_le h9 hS.1)).trans (hk0 x h9)⟩) hS.2.2 (by omega) (by omega)
    · rcases (show wt = 0 ∨ wt = 1 ∨ wt = 2 ∨ wt = 3 ∨ wt = 4 ∨ wt = 5 ∨ wt = 6 ∨ wt = 7 ∨ wt = 8 ∨ wt = 9 by omega) with cd7 | cd7 | cd7 | cd7 | cd7 | cd7 | cd7 | cd7 | cd7 | cd7
      · refine lv_tableIn (off := 53) (tgt := 60) hx hb dX7_ofCrane_7 (by rw [hx7]; omega) (by rw [hx7]; omega) (by rw [hx7, cd7]; rfl) (by decide) ?_
        refine lv_aload_n hx hb dX7_ofCrane_60 rfl (lv_at hl 0 rfl) ?_
        refine va_get (D := D) (ci := 2) (v := .int (zI (σ (3 + ic2) 1))) (C := RX0) (T := TX0) (N := 12) hx hb hts inX0 hown hK hP (3 + ic2) (wg_C (i := ic2) (by first | assumption | omega)) rfl 1 (by decide) k66 (fun _ h9 => h9) rfl dX7_ofCrane_61 ?_
        refine vx_ret ?_
        refine W.widen (k := 2) (n := 12) (by omega) (by omega) ?_
        exact W.iret (v := zI (σ (3 + ic2) 1)) hx hb hr (fun t9 ht hW => ⟨⟨_, (), rfl, (by rw [show n0.toNat = ic2 by omega, cd7]; rfl), trivial⟩, vF_R ht hS.1 hk0⟩) hS.2.2 dX7_ofCrane_64
      · refine lv_tableIn (off := 58) (tgt := 65) hx hb dX7_ofCrane_7 (by rw [hx7]; omega) (by rw [hx7]; omega) (by rw [hx7, cd7]; rfl) (by decide) ?_
        refine lv_aload_n hx hb dX7_ofCrane_65 rfl (lv_at hl 0 rfl) ?_
        refine va_get (D := D) (ci := 2) (v := .int (zI (σ (3 + ic2) 2))) (C := RX0) (T := TX0) (N := 12) hx hb hts inX0 hown hK hP (3 + ic2) (wg_C (i := ic2) (by first | assumption | omega)) rfl 2 (by decide) k69 (fun _ h9 => h9) rfl dX7_ofCrane_66 ?_
        refine vx_ret ?_
        refine W.widen (k := 2) (n := 12) (by omega) (by omega) ?_
        exact W.iret (v := zI (σ (3 + ic2) 2)) hx hb hr (fun t9 ht hW => ⟨⟨_, (), rfl, (by rw [show n0.toNat = ic2 by omega, cd7]; rfl), trivial⟩, vF_R ht hS.1 hk0⟩) hS.2.2 dX7_ofCrane_69
      · refine lv_tableIn (off := 63) (tgt := 70) hx hb dX7_ofCrane_7 (by rw [hx7]; omega) (by rw [hx7]; omega) (by rw [hx7, cd7]; rfl) (by decide) ?_
        refine lv_aload_n hx hb dX7_ofCrane_70 rfl (lv_at hl 0 rfl) ?_
        refine va_get (D := D) (ci := 2) (v := .int (zI (σ (3 + ic2) 3))) (C := RX0) (T := TX0) (N := 12) hx hb hts inX0 hown hK hP (3 + ic2) (wg_C (i := ic2) (by first | assumption | omega)) rfl 3 (by decide) k207 (fun _ h9 => h9) rfl dX7_ofCrane_71 ?_
        refine vx_ret ?_
        refine W.widen (k := 2) (n := 12) (by omega) (by omega) ?_
        exact W.iret (v := zI (σ (3 + ic2) 3)) hx hb hr (fun t9 ht hW => ⟨⟨_, (), rfl, (by rw [show n0.toNat = ic2 by omega, cd7]; rfl), trivial⟩, vF_R ht hS.1 hk0⟩) hS.2.2 dX7_ofCrane_74
      · refine lv_tableIn (off := 68) (tgt := 75) hx hb dX7_ofCrane_7 (by rw [hx7]; omega) (by rw [hx7]; omega) (by rw [hx7, cd7]; rfl) (by decide) ?_
        refine lv_aload_n hx hb dX7_ofCrane_75 rfl (lv_at hl 0 rfl) ?_
        refine va_get (D := D) (ci := 2) (v := .int (zI (σ (3 + ic2) 4))) (C := RX0) (T := TX0) (N := 12) hx hb hts inX0 hown hK hP (3 + ic2) (wg_C (i := ic2) (by first | assumption | omega)) rfl 4 (by decide) k72 (fun _ h9 => h9) rfl dX7_ofCrane_76 ?_
        refine vx_ret ?_
        refine W.widen (k := 2) (n := 12) (by omega) (by omega) ?_
        exact W.iret (v := zI (σ (3 + ic2) 4)) hx hb hr (fun t9 ht hW => ⟨⟨_, (), rfl, (by rw [show n0.toNat = ic2 by omega, cd7]; rfl), trivial⟩, vF_R ht hS.1 hk0⟩) hS.2.2 dX7_ofCrane_79
      · refine lv_tableIn (off := 73) (tgt := 80) hx hb dX7_ofCrane_7 (by rw [hx7]; omega) (by rw [hx7]; omega) (by rw [hx7, cd7]; rfl) (by decide) ?_
        refine lv_aload_n hx hb dX7_ofCrane_80 rfl (lv_at hl 0 rfl) ?_
        refine va_get (D := D) (ci := 2) (v := .int (zI (σ (3 + ic2) 5))) (C := RX0) (T := TX0) (N := 12) hx hb hts inX0 hown hK hP (3 + ic2) (wg_C (i := ic2) (by first | assumption | omega)) rfl 5 (by decide) k79 (fun _ h9 => h9) rfl dX7_ofCrane_81 ?_
        refine z_if_eq (tgt := 91) hx hb dX7_ofCrane_84 (by decide) (by omega) (fun cd84 => ?_) (fun cd84 => ?_)
        · skip
          refine lv_iconst (v := zI 0) hx hb dX7_ofCrane_91 rfl ?_
          refine vx_ret ?_
          refine W.widen (k := 2) (n := 12) (by omega) (by omega) ?_
          exact W.iret (v := zI (0)) hx hb hr (fun t9 ht hW => ⟨⟨_, (), rfl, (by rw [show n0.toNat = ic2 by omega, cd7]; show zI 0 = zI (σ (3 + ic2) 5); congr 1; omega), trivial⟩, vF_R ht hS.1 hk0⟩) hS.2.2 dX7_ofCrane_92
        · skip
          refine lv_iconst (v := zI 1) hx hb dX7_ofCrane_87 rfl ?_
          refine lv_goto (tgt := 92) hx hb dX7_ofCrane_88 (by decide) ?_
          refine vx_ret ?_
          refine W.widen (k := 2) (n := 12) (by omega) (by omega) ?_
          exact W.iret (v := zI (1)) hx hb hr (fun t9 ht hW => ⟨⟨_, (), rfl, (by rw [show n0.toNat = ic2 by omega, cd7]; show zI 1 = zI (σ (3 + ic2) 5); congr 1; omega), trivial⟩, vF_R ht hS.1 hk0⟩) hS.2.2 dX7_ofCrane_92
      · refine lv_tableIn (off := 86) (tgt := 93) hx hb dX7_ofCrane_7 (by rw [hx7]; omega) (by rw [hx7]; omega) (by rw [hx7, cd7]; rfl) (by decide) ?_
        refine lv_aload_n hx hb dX7_ofCrane_93 rfl (lv_at hl 0 rfl) ?_
        refine va_get (D := D) (ci := 2) (v := .int (zI (σ (3 + ic2) 10))) (C := RX0) (T := TX0) (N := 12) hx hb hts inX0 hown hK hP (3 + ic2) (wg_C (i := ic2) (by first | assumption | omega)) rfl 10 (by decide) k156 (fun _ h9 => h9) rfl dX7_ofCrane_94 ?_
        refine vx_ret ?_
        refine W.widen (k := 2) (n := 12) (by omega) (by omega) ?_
        exact W.iret (v := zI (σ (3 + ic2) 10)) hx hb hr (fun t9 ht hW => ⟨⟨_, (), rfl, (by rw [show n0.toNat = ic2 by omega, cd7]; rfl), trivial⟩, vF_R ht hS.1 hk0⟩) hS.2.2 dX7_ofCrane_97
      · refine lv_tableIn (off := 91) (tgt := 98) hx hb dX7_ofCrane_7 (by rw [hx7]; omega) (by rw [hx7]; omega) (by rw [hx7, cd7]; rfl) (by decide) ?_
        refine lv_aload_n hx hb dX7_ofCrane_98 rfl (lv_at hl 0 rfl) ?_
        refine va_calli (va_runV (As := []) (rest := []) ⟨hx, hb, hml, hown, hts⟩ (c_X0_isWorn l D cy a q σ H.size ic2 (by first | assumption | omega) (by omega)) (cwV 0 hts gX7_ofCrane_X0_isWorn rfl rfl rfl (by decide +kernel) ⟨Nat.le_of_ble_eq_true rfl, Nat.le_of_ble_eq_true rfl⟩) ⟨Wd_blind, va_recv hK hP (ci := 2) (q0 := (3 + ic2)) rfl (wg_C (i := ic2) (by first | assumption | omega)), fun U hU hW => ⟨rfl, by rw [hU], Wd_mk (wP_left hP) hE0 hS hU hW⟩⟩ rfl rfl hl.1 rfl (lv_room (Nat.le_of_ble_eq_true rfl)) dX7_ofCrane_99 ⟨(show 0 + 1 + 0 ≤ 2 by omega), (show 0 + 6 + 0 ≤ 12 by omega)⟩) hS (fun _ _ h => h.elim) (fun _ h => wF_mono hS.1 _ h) (fun rv99 u9 t9 H locs ht hvm hw hB hz hk hS1 => ?_)
        have hP := hP.kept (fun k x hk9 => hk x.1 ((hP k x hk9).lt) (fun h => h))
        have hk0 : ∀ x : Nat, x < s.heap.size → H[x]? = s.heap[x]? := fun x h9 => (hk x (Nat.lt_of_lt_of_le h9 hS.1) (fun h => h)).trans (hk0 x h9)
        have hS := hS1
        rcases hw with ⟨rfl, bd99⟩ | ⟨rfl, bd99⟩
        · skip
          refine z_if_eq (tgt := 109) hx hb dX7_ofCrane_102 (by decide) (by decide) (fun cd102 => absurd cd102 (by decide)) (fun _ => ?_)
          refine lv_iconst (v := zI 1) hx hb dX7_ofCrane_105 rfl ?_
          refine lv_goto (tgt := 110) hx hb dX7_ofCrane_106 (by decide) ?_
          refine vx_ret ?_
          refine W.widen (k := 2) (n := 12) (by omega) (by omega) ?_
          exact W.iret (v := zI (1)) hx hb hr (fun t9 ht hW => ⟨⟨_, (), rfl, (by rw [show n0.toNat = ic2 by omega, cd7]; show zI 1 = zI (if 80 ≤ σ (3 + ic2) 10 then 1 else 0); rw [if_pos bd99]), trivial⟩, vF_R ht hS.1 hk0⟩) hS.2.2 dX7_ofCrane_110
        · skip
          refine z_if_eq (tgt := 109) hx hb dX7_ofCrane_102 (by decide) (by decide) (fun _ => ?_) (fun cd102 => absurd cd102 (by decide))
          refine lv_iconst (v := zI 0) hx hb dX7_ofCrane_109 rfl ?_
          refine vx_ret ?_
          refine W.widen (k := 2) (n := 12) (by omega) (by omega) ?_
          exact W.iret (v := zI (0)) hx hb hr (fun t9 ht hW => ⟨⟨_, (), rfl, (by rw [show n0.toNat = ic2 by omega, cd7]; show zI 0 = zI (if 80 ≤ σ (3 + ic2) 10 then 1 else 0); rw [if_neg bd99]), trivial⟩, vF_R ht hS.1 hk0⟩) hS.2.2 dX7_ofCrane_110
      · refine lv_tableIn (off := 104) (tgt := 111) hx hb dX7_ofCrane_7 (by rw [hx7]; omega) (by rw [hx7]; omega) (by rw [hx7, cd7]; rfl) (by decide) ?_
        refine lv_aload_n hx hb dX7_ofCrane_111 rfl (lv_at hl 0 rfl) ?_
        refine lv_aload_n hx hb dX7_ofCrane_112 rfl (lv_at hl 0 rfl) ?_
        refine va_get (D := D) (ci := 2) (v := .int (zI (σ (3 + ic2) 4))) (C := RX0) (T := TX0) (N := 12) hx hb hts inX0 hown hK hP (3 + ic2) (wg_C (i := ic2) (by first | assumption | omega)) rfl 4 (by decide) k72 (fun _ h9 => h9) rfl dX7_ofCrane_113 ?_
        refine lv_aload_n hx hb dX7_ofCrane_116 rfl (lv_at hl 1 rfl) ?_
        refine va_get (D := D) (ci := 9) (v := .ref (a 1)) (C := RX7) (T := TX7) (N := 9) hx hb hts inX7 hown hK hP 0 wg_S rfl 0 (by decide) k10 (fun _ h9 => h9) rfl dX7_ofCrane_117 ?_
        refine va_get (D := D) (ci := 7) (v := .int (zI (σ 1 5))) (C := RX5) (T := TX5) (N := 7) hx hb hts inX5 hown hK hP 1 wg_W rfl 5 (by decide) k104 (fun _ h9 => h9) rfl dX7_ofCrane_120 ?_
        refine va_calli (va_runV (As := [.int (zI (σ (3 + ic2) 4)), .int (zI (σ 1 5))]) (rest := []) ⟨hx, hb, hml, hown, hts⟩ (c_X0_capacityAt l D cy a q σ H.size ic2 (by first | assumption | omega) (σ (3 + ic2) 4) (by omega) (σ 1 5) (by omega) (by first | assumption | omega) (by first | assumption | omega) (by omega) (by omega)) (cwV 2 hts gX7_ofCrane_X0_capacityAt rfl rfl rfl (by decide +kernel) ⟨Nat.le_of_ble_eq_true rfl, Nat.le_of_ble_eq_true rfl⟩) ⟨Wd_blind, va_recv hK hP (ci := 2) (q0 := (3 + ic2)) rfl (wg_C (i := ic2) (by first | assumption | omega)), fun U hU hW => ⟨rfl, by rw [hU], Wd_mk (wP_left hP) hE0 hS hU hW⟩⟩ rfl rfl hl.1 rfl (lv_room (Nat.le_of_ble_eq_true rfl)) dX7_ofCrane_123 ⟨(show 0 + 1 + 0 ≤ 2 by omega), (show 0 + 6 + 0 ≤ 12 by omega)⟩) hS (fun _ _ h => h.elim) (fun _ h => wF_mono hS.1 _ h) (fun rv123 u9 t9 H locs ht hvm hw hB hz hk hS1 => ?_)
        have hP := hP.kept (fun k x hk9 => hk x.1 ((hP k x hk9).lt) (fun h => h))
        have hk0 : ∀ x : Nat, x < s.heap.size → H[x]? = s.heap[x]? := fun x h9 => (hk x (Nat.lt_of_lt_of_le h9 hS.1) (fun h => h)).trans (hk0 x h9)
        have hS := hS1
        obtain rfl := hw
        refine vx_ret ?_
        refine W.widen (k := 2) (n := 12) (by omega) (by omega) ?_
        exact W.iret (v := zI (cpF (σ (3 + ic2)) (σ (3 + ic2) 4) (σ 1 5))) hx hb hr (fun t9 ht hW => ⟨⟨_, (), rfl, (by rw [show n0.toNat = ic2 by omega, cd7]; rfl), trivial⟩, vF_R ht hS.1 hk0⟩) hS.2.2 dX7_ofCrane_126
      · refine lv_tableIn (off := 120) (tgt := 127) hx hb dX7_ofCrane_7 (by rw [hx7]; omega) (by rw [hx7]; omega) (by rw [hx7, cd7]; rfl) (by decide) ?_
        refine lv_aload_n hx hb dX7_ofCrane_127 rfl (lv_at hl 0 rfl) ?_
        refine va_get (D := D) (ci := 2) (v := .int (zI (σ (3 + ic2) 3))) (C := RX0) (T := TX0) (N := 12) hx hb hts inX0 hown hK hP (3 + ic2) (wg_C (i := ic2) (by first | assumption | omega)) rfl 3 (by decide) k207 (fun _ h9 => h9) rfl dX7_ofCrane_128 ?_
        refine lv_aload_n hx hb dX7_ofCrane_131 rfl (lv_at hl 1 rfl) ?_
        refine va_get (D := D) (ci := 9) (v := .ref (a 1)) (C := RX7) (T := TX7) (N := 9) hx hb hts inX7 hown hK hP 0 wg_S rfl 0 (by decide) k10 (fun _ h9 => h9) rfl dX7_ofCrane_132 ?_
        refine va_get (D := D) (ci := 7) (v := .int (zI (σ 1 4))) (C := RX5) (T := TX5) (N := 7) hx hb hts inX5 hown hK hP 1 wg_W rfl 4 (by decide) k167 (fun _ h9 => h9) rfl dX7_ofCrane_135 ?_
        refine va_calli (va_runS (As := [.int (zI (σ (3 + ic2) 3)), .int (zI (σ 1 4))]) (rest := []) ⟨hx, hb, hml, hown, hts⟩ (c_X7_stepsBetween l (σ (3 + ic2) 3) (by omega) (σ 1 4) (by omega) (by first | assumption | omega) (by first | assumption | omega)) (va_cwS 2 hts gX7_ofCrane_X7_stepsBetween rfl rfl rfl (by decide +kernel) ⟨Nat.le_of_ble_eq_true rfl, Nat.le_of_ble_eq_true rfl⟩) ⟨fun _ _ _ _ h => h, fun _ _ _ => ⟨rfl, trivial⟩⟩ rfl rfl hl.1 rfl (lv_room (Nat.le_of_ble_eq_true rfl)) dX7_ofCrane_138 ⟨(show 0 + 1 + 0 ≤ 2 by omega), (show 0 + 6 + 0 ≤ 12 by omega)⟩) hS (fun _ _ h => h.elim) (fun _ h => h.elim) (fun rv138 u9 t9 H locs ht hvm hw hB hz hk hS1 => ?_)
        have hP := hP.kept (fun k x hk9 => hk x.1 ((hP k x hk9).lt) (fun h => h))
        have hk0 : ∀ x : Nat, x < s.heap.size → H[x]? = s.heap[x]? := fun x h9 => (hk x (Nat.lt_of_lt_of_le h9 hS.1) (fun h => h)).trans (hk0 x h9)
        have hS := hS1
        obtain rfl := hw
        refine vx_ret ?_
        refine W.widen (k := 2) (n := 12) (by omega) (by omega) ?_
        exact W.iret (v := zI (stF (σ (3 + ic2) 3) (σ 1 4))) hx hb hr (fun t9 ht hW => ⟨⟨_, (), rfl, (by rw [show n0.toNat = ic2 by omega, cd7]; rfl), trivial⟩, vF_R ht hS.1 hk0⟩) hS.2.2 dX7_ofCrane_141
      · refine lv_tableIn (off := 135) (tgt := 142) hx hb dX7_ofCrane_7 (by rw [hx7]; omega) (by rw [hx7]; omega) (by rw [hx7, cd7]; rfl) (by decide) ?_
        refine lv_aload_n hx hb dX7_ofCrane_142 rfl (lv_at hl 0 rfl) ?_
        refine va_get (D := D) (ci := 2) (v := .int (zI (σ (3 + ic2) 11))) (C := RX0) (T := TX0) (N := 12) hx hb hts inX0 hown hK hP (3 + ic2) (wg_C (i := ic2) (by first | assumption | omega)) rfl 11 (by decide) k211 (fun _ h9 => h9) rfl dX7_ofCrane_143 ?_
        refine vx_ret ?_
        refine W.widen (k := 2) (n := 12) (by omega) (by omega) ?_
        exact W.iret (v := zI (σ (3 + ic2) 11)) hx hb hr (fun t9 ht hW => ⟨⟨_, (), rfl, (by rw [show n0.toNat = ic2 by omega, cd7]; rfl), trivial⟩, vF_R ht hS.1 hk0⟩) hS.2.2 dX7_ofCrane_146

set_option maxRecDepth 100000 in
theorem vt234_X7_page : ∀ w ∈ (vx_atS RX7 234 "java/lang/IndexOutOfBoundsException" ["java/lang/RuntimeException", "java/lang/Exception"]).filter goodWord, w ∈ wsX7_page := by decide +kernel
set_option maxRecDepth 100000 in
theorem vt54_X7_page : ∀ w ∈ (vx_atS RX7 54 "java/lang/IllegalArgumentException" ["java/lang/RuntimeException", "java/lang/Exception"]).filter goodWord, w ∈ wsX7_page := by decide +kernel
set_option maxHeartbeats 4000000 in
set_option maxRecDepth 100000 in
/-- X7_page -/
theorem c_X7_page (l : Launch) (hlT : l.stackTraces = false) (D : va_G) (cy : Nat → ClassId) (a q : Nat → Nat) (σ : Nat → Nat → Int) (sz : Nat) (pg : Int) (hpg : rg pg) (wt : Int) (hwt : rg wt) (t0 : Int) (wi : Int) (hO : okA t0 wi q σ) : vx_Met l yX7_page wsX7_page ({ frames := 9, cells := 1, slots := 6, locals := 300 }) (va_Pc [.ref (a 0), .int (zI (pg)), .int (zI (wt))] (fun U => U.heap.size = sz ∧ Wd D cy a q σ U)) (va_Qi (fun (r : Int32) (_ : Unit) => r = zI (σ (22 + q pg.toNat) wt.toNat)) (fun _ _ => True) (fun _ => False)) (vx_X (fun (_ : Unit) => pg < 0 ∨ σ 20 1 ≤ pg ∨ wt < 0 ∨ 6 < wt) (fun E _ _ => okE E) (fun _ => False)) 1 6 (wF a sz) := by
  refine vx_ofW (cc := cX7_page) (maxL := 4) (ret := (some .int)) (by decide) rfl ?_
  intro p e s m args below meth c s₁ B hml hexc hpc0
  obtain ⟨rfl, hsz, hW0⟩ := hpc0
  have hx := B.exec
  have hb := B.bytes
  have hr := B.returns
  have hts := atoms_spec (ws := wsX7_page) B.pre
  have hown : s.vm.findClass RX7 = some m.cls := findClass_of_methodNamed B.named
  have hlocks := B.notSynchronized
  subst hsz
  obtain ⟨hP00, hE0⟩ := id hW0
  obtain ⟨hK, hinj, hU0, hN0, hstr, hnest⟩ := id hE0
  have hP : va_P D vwCl (wld cy a q σ ++ []) s.heap := by rw [List.append_nil]; exact hP00
  have hD : va_D (wF a s.heap.size) (wld cy a q σ ++ []) := wD_of hinj
  have hA : ∀ x : Nat, s.heap.size ≤ x → wF a s.heap.size x := fun _ h => Or.inr h
  have hS : va_S (wF a s.heap.size) s.heap s.heap [] := va_S.rf
  have hk0 : ∀ x : Nat, x < s.heap.size → s.heap[x]? = s.heap[x]? := fun _ _ => rfl
  have hl := lv_entry ([.ref (a 0), .int (zI (pg)), .int (zI (wt))]) (n := 4) (Nat.le_of_ble_eq_true rfl)
  rw [lg_entry_eq]
  generalize (lg_sl ([.ref (a 0), .int (zI (pg)), .int (zI (wt))]) ++ List.replicate (4 - (lg_sl ([.ref (a 0), .int (zI (pg)), .int (zI (wt))])).length) Slot.unset).toArray = ls at hl ⊢
  have hl : lv_has ls 4 [(0, .ref (a 0)), (1, .int (zI (pg))), (2, .int (zI (wt)))] := hl
  have k42 := hts (.fieldLink RX7 42 "Slewfree" "log" "LSlewfree$Log;") (by decide +kernel)
  have k249 := hts (.fieldLink RX7 249 "Slewfree$Log" "pages" "[LSlewfree$Page;") (by decide +kernel)
  have k253 := hts (.fieldLink RX7 253 "Slewfree$Page" "kind" "I") (by decide +kernel)
  have k258 := hts (.fieldLink RX7 258 "Slewfree$Page" "crane" "I") (by decide +kernel)
  have k259 := hts (.fieldLink RX7 259 "Slewfree$Page" "wind" "I") (by decide +kernel)
  have k260 := hts (.fieldLink RX7 260 "Slewfree$Page" "load" "I") (by decide +kernel)
  have k263 := hts (.fieldLink RX7 263 "Slewfree$Page" "verdict" "I") (by decide +kernel)
  have k264 := hts (.fieldLink RX7 264 "Slewfree$Page" "seal" "I") (by decide +kernel)
  have k267 := hts (.fieldLink RX7 267 "Slewfree$Page" "leastCapacity" "I") (by decide +kernel)
  have inX1 : ∀ w ∈ u_ws RX1 TX1 4, w ∈ wsX7_page := by decide +kernel
  have inX3 : ∀ w ∈ u_ws RX3 TX3 7, w ∈ wsX7_page := by decide +kernel
  have inX7 : ∀ w ∈ u_ws RX7 TX7 9, w ∈ wsX7_page := by decide +kernel
  obtain ⟨oS, oW, oC, oZ, oM, oL, oP, oQ, oH⟩ := id hO
  unfold okS at oS; unfold okW at oW; unfold okL at oL
  refine lv_aload_n hx hb dX7_page_0 rfl (lv_at hl 0 rfl) ?_
  refine lv_iload_n hx hb dX7_page_1 rfl (lv_at hl 1 rfl) ?_
  refine va_calli (va_runV (As := [.int (zI (pg))]) (rest := []) ⟨hx, hb, hml, hown, hts⟩ (c_X7_isNoPage l D cy a q σ s.heap.size (pg) (by omega) (by omega)) (cwV 1 hts gX7_page_X7_isNoPage rfl rfl rfl (by decide +kernel) ⟨Nat.le_of_ble_eq_true rfl, Nat.le_of_ble_eq_true rfl⟩) ⟨Wd_blind, va_recv hK hP (ci := 9) (q0 := 0) rfl wg_S, fun U hU hW => ⟨rfl, by rw [hU], Wd_mk (wP_left hP) hE0 hS hU hW⟩⟩ rfl rfl hl.1 rfl (lv_room (Nat.le_of_ble_eq_true rfl)) dX7_page_2 ⟨(show 0 + 0 ≤ 1 by omega), (show 0 + 0 ≤ 6 by omega)⟩) hS (fun _ _ h => h.elim) (fun _ h => wF_mono hS.1 _ h) (fun rv2 u9 t9 H locs ht hvm hw hB hz hk hS1 => ?_)
  have hP := hP.kept (fun k x hk9 => hk x.1 ((hP k x hk9).lt) (fun h => h))
  have hk0 : ∀ x : Nat, x < s.heap.size → H[x]? = s.heap[x]? := fun x h9 => (hk x (Nat.lt_of_lt_of_le h9 hS.1) (fun h => h)).trans (hk0 x h9)
  have hS := hS1
  rcases hw with ⟨rfl, bd2⟩ | ⟨rfl, bd2⟩
  · skip
    refine z_if_eq (tgt := 18) hx hb dX7_page_5 (by decide) (by decide) (fun cd5 => absurd cd5 (by decide)) (fun _ => ?_)
    obtain ⟨sa9, hsa9⟩ := hstr (232, "no such page") (by decide)
    exact vx_throwS (names := ["java/lang/RuntimeException", "java/lang/Exception"]) (sa := sa9) hx hb hlT hown (by decide +kernel) (by decide +kernel) (hts (.classLink RX7 230 "java/lang/IndexOutOfBoundsException") (by decide +kernel)) (hts (.initialized "java/lang/IndexOutOfBoundsException") (by decide +kernel)) hsa9 (vx_hat (fun w h => hts w (vt234_X7_page w h)) vf234 hnest.2.2.2.2.bad) vg234 hU0 hN0 hS (by rw [hml]; exact hl.1) dX7_page_8 dX7_page_11 dX7_page_12 dX7_page_14 dX7_page_17 (fun x h => (hexc x h).elim) (Nat.le_of_ble_eq_true rfl) (Nat.le_of_ble_eq_true rfl) (show 0 + 0 + 1 ≤ 1 by omega) (show 0 + 0 + 6 ≤ 6 by omega) hlocks (fun t9 hvm9 hz9 hk9 => ⟨(), (by omega), okE_I, Nat.le_trans hS.1 hz9, fun x h9 _ => (hk9 x (Nat.lt_of_lt_of_le h9 hS.1)).trans (hk0 x h9)⟩) hS.2.2 (by omega) (by omega)
  · skip
    refine z_if_eq (tgt := 18) hx hb dX7_page_5 (by decide) (by decide) (fun _ => ?_) (fun cd5 => absurd cd5 (by decide))
    obtain ⟨ip, hip⟩ : ∃ i : Nat, pg = (i : Int) := ⟨pg.toNat, by omega⟩
    have hqp := oQ.1 ip (by omega)
    refine lv_aload_n hx hb dX7_page_18 rfl (lv_at hl 0 rfl) ?_
    refine va_get (D := D) (ci := 9) (v := .ref (a 20)) (C := RX7) (T := TX7) (N := 9) hx hb hts inX7 hown hK hP 0 wg_S rfl 4 (by decide) k42 (fun _ h9 => h9) rfl dX7_page_19 ?_
    refine va_get (D := D) (ci := 3) (v := .ref (a 21)) (C := RX1) (T := TX1) (N := 4) hx hb hts inX1 hown hK hP 20 wg_L rfl 0 (by decide) k249 (fun _ h9 => h9) rfl dX7_page_22 ?_
    refine lv_iload_n hx hb dX7_page_25 rfl (lv_at hl 1 rfl) ?_
    refine z_aald (i := ip) hx hb hK hP 21 3 wg_AP rfl (by omega) (by omega) (by omega) dX7_page_26 ?_
    refine lv_astore_n (lv' := [(3, .ref (a (22 + q ip))), (0, .ref (a 0)), (1, .int (zI (pg))), (2, .int (zI (wt)))]) hx hb dX7_page_27 rfl hl (by decide) rfl (fun ls hl => ?_)
    refine lv_iload_n hx hb dX7_page_28 rfl (lv_at hl 3 rfl) ?_
    have hx29 : (zI (wt)).toInt = wt := zI_toInt (by omega)
    by_cases cd29 : wt < 0 ∨ 6 < wt
    · refine lv_tableOut (tgt := 107) hx hb dX7_page_29 (by rw [hx29]; exact cd29) (by decide) ?_
      obtain ⟨sa9, hsa9⟩ := hstr (268, "what is 0 to 6") (by decide)
      exact vx_throwSW (names := ["java/lang/RuntimeException", "java/lang/Exception"]) (sa := sa9) hx hb hlT hown (by decide +kernel) (by decide +kernel) (hts (.classLink RX7 50 "java/lang/IllegalArgumentException") (by decide +kernel)) (hts (.initialized "java/lang/IllegalArgumentException") (by decide +kernel)) hsa9 (vx_hat (fun w h => hts w (vt54_X7_page w h)) vf54 hnest.2.2.1.bad) vg54 hU0 hN0 hS (by rw [hml]; exact hl.1) dX7_page_107 dX7_page_110 dX7_page_111 dX7_page_114 dX7_page_117 (fun x h => (hexc x h).elim) (Nat.le_of_ble_eq_true rfl) (Nat.le_of_ble_eq_true rfl) (show 0 + 0 + 1 ≤ 1 by omega) (show 0 + 0 + 6 ≤ 6 by omega) hlocks (fun t9 hvm9 hz9 hk9 => ⟨(), (by omega), okE_A, Nat.le_trans hS.1 hz9, fun x h9 _ => (hk9 x (Nat.lt_of_lt_of_le h9 hS.1)).trans (hk0 x h9)⟩) hS.2.2 (by omega) (by omega)
    · rcases (show wt = 0 ∨ wt = 1 ∨ wt = 2 ∨ wt = 3 ∨ wt = 4 ∨ wt = 5 ∨ wt = 6 by omega) with cd29 | cd29 | cd29 | cd29 | cd29 | cd29 | cd29
      · refine lv_tableIn (off := 43) (tgt := 72) hx hb dX7_page_29 (by rw [hx29]; omega) (by rw [hx29]; omega) (by rw [hx29, cd29]; rfl) (by decide) ?_
        refine lv_aload_n hx hb dX7_page_72 rfl (lv_at hl 0 rfl) ?_
        refine va_get (D := D) (ci := 5) (v := .int (zI (σ (22 + q ip) 0))) (C := RX3) (T := TX3) (N := 7) hx hb hts inX3 hown hK hP (22 + q ip) (wg_P (i := q ip) (by first | assumption | omega)) rfl 0 (by decide) k253 (fun _ h9 => h9) rfl dX7_page_73 ?_
        refine vx_ret ?_
        refine W.widen (k := 1) (n := 6) (by omega) (by omega) ?_
        exact W.iret (v := zI (σ (22 + q ip) 0)) hx hb hr (fun t9 ht hW => ⟨⟨_, (), rfl, (by rw [show pg.toNat = ip by omega, cd29]; rfl), trivial⟩, vF_R ht hS.1 hk0⟩) hS.2.2 dX7_page_76
      · refine lv_tableIn (off := 48) (tgt := 77) hx hb dX7_page_29 (by rw [hx29]; omega) (by rw [hx29]; omega) (by rw [hx29, cd29]; rfl) (by decide) ?_
        refine lv_aload_n hx hb dX7_page_77 rfl (lv_at hl 0 rfl) ?_
        refine va_get (D := D) (ci := 5) (v := .int (zI (σ (22 + q ip) 1))) (C := RX3) (T := TX3) (N := 7) hx hb hts inX3 hown hK hP (22 + q ip) (wg_P (i := q ip) (by first | assumption | omega)) rfl 1 (by decide) k258 (fun _ h9 => h9) rfl dX7_page_78 ?_
        refine vx_ret ?_
        refine W.widen (k := 1) (n := 6) (by omega) (by omega) ?_
        exact W.iret (v := zI (σ (22 + q ip) 1)) hx hb hr (fun t9 ht hW => ⟨⟨_, (), rfl, (by rw [show pg.toNat = ip by omega, cd29]; rfl), trivial⟩, vF_R ht hS.1 hk0⟩) hS.2.2 dX7_page_81
      · refine lv_tableIn (off := 53) (tgt := 82) hx hb dX7_page_29 (by rw [hx29]; omega) (by rw [hx29]; omega) (by rw [hx29, cd29]; rfl) (by decide) ?_
        refine lv_aload_n hx hb dX7_page_82 rfl (lv_at hl 0 rfl) ?_
        refine va_get (D := D) (ci := 5) (v := .int (zI (σ (22 + q ip) 2))) (C := RX3) (T := TX3) (N := 7) hx hb hts inX3 hown hK hP (22 + q ip) (wg_P (i := q ip) (by first | assumption | omega)) rfl 2 (by decide) k259 (fun _ h9 => h9) rfl dX7_page_83 ?_
        refine vx_ret ?_
        refine W.widen (k := 1) (n := 6) (by omega) (by omega) ?_
        exact W.iret (v := zI (σ (22 + q ip) 2)) hx hb hr (fun t9 ht hW => ⟨⟨_, (), rfl, (by rw [show pg.toNat = ip by omega, cd29]; rfl), trivial⟩, vF_R ht hS.1 hk0⟩) hS.2.2 dX7_page_86
      · refine lv_tableIn (off := 58) (tgt := 87) hx hb dX7_page_29 (by rw [hx29]; omega) (by rw [hx29]; omega) (by rw [hx29, cd29]; rfl) (by decide) ?_
        refine lv_aload_n hx hb dX7_page_87 rfl (lv_at hl 0 rfl) ?_
        refine va_get (D := D) (ci := 5) (v := .int (zI (σ (22 + q ip) 3))) (C := RX3) (T := TX3) (N := 7) hx hb hts inX3 hown hK hP (22 + q ip) (wg_P (i := q ip) (by first | assumption | omega)) rfl 3 (by decide) k260 (fun _ h9 => h9) rfl dX7_page_88 ?_
        refine vx_ret ?_
        refine W.widen (k := 1) (n := 6) (by omega) (by omega) ?_
        exact W.iret (v := zI (σ (22 + q ip) 3)) hx hb hr (fun t9 ht hW => ⟨⟨_, (), rfl, (by rw [show pg.toNat = ip by omega, cd29]; rfl), trivial⟩, vF_R ht hS.1 hk0⟩) hS.2.2 dX7_page_91
      · refine lv_tableIn (off := 63) (tgt := 92) hx hb dX7_page_29 (by rw [hx29]; omega) (by rw [hx29]; omega) (by rw [hx29, cd29]; rfl) (by decide) ?_
        refine lv_aload_n hx hb dX7_page_92 rfl (lv_at hl 0 rfl) ?_
        refine va_get (D := D) (ci := 5) (v := .int (zI (σ (22 + q ip) 4))) (C := RX3) (T := TX3) (N := 7) hx hb hts inX3 hown hK hP (22 + q ip) (wg_P (i := q ip) (by first | assumption | omega)) rfl 4 (by decide) k263 (fun _ h9 => h9) rfl dX7_page_93 ?_
        refine vx_ret ?_
        refine W.widen (k := 1) (n := 6) (by omega) (by omega) ?_
        exact W.iret (v := zI (σ (22 + q ip) 4)) hx hb hr (fun t9 ht hW => ⟨⟨_, (), rfl, (by rw [show pg.toNat = ip by omega, cd29]; rfl), trivial⟩, vF_R ht hS.1 hk0⟩) hS.2.2 dX7_page_96
      · refine lv_tableIn (off := 68) (tgt := 97) hx hb dX7_page_29 (by rw [hx29]; omega) (by rw [hx29]; omega) (by rw [hx29, cd29]; rfl) (by decide) ?_
        refine lv_aload_n hx hb dX7_page_97 rfl (lv_at hl 0 rfl) ?_
        refine va_get (D := D) (ci := 5) (v := .int (zI (σ (22 + q ip) 5))) (C := RX3) (T := TX3) (N := 7) hx hb hts inX3 hown hK hP (22 + q ip) (wg_P (i := q ip) (by first | assumption | omega)) rfl 5 (by decide) k264 (fun _ h9 => h9) rfl dX7_page_98 ?_
        refine vx_ret ?_
        refine W.widen (k := 1) (n := 6) (by omega) (by omega) ?_
        exact W.iret (v := zI (σ (22 + q ip) 5)) hx hb hr (fun t9 ht hW => ⟨⟨_, (), rfl, (by rw [show pg.toNat = ip by omega, cd29]; rfl), trivial⟩, vF_R ht hS.1 hk0⟩) hS.2.2 dX7_page_101
      · refine lv_tableIn (off := 73) (tgt := 102) hx hb dX7_page_29 (by rw [hx29]; omega) (by rw [hx29]; omega) (by rw [hx29, cd29]; rfl) (by decide) ?_
        refine lv_aload_n hx hb dX7_page_102 rfl (lv_at hl 0 rfl) ?_
        refine va_get (D := D) (ci := 5) (v := .int (zI (σ (22 + q ip) 6))) (C := RX3) (T := TX3) (N := 7) hx hb hts inX3 hown hK hP (22 + q ip) (wg_P (i := q ip) (by first | assumption | omega)) rfl 6 (by decide) k267 (fun _ h9 => h9) rfl dX7_page_103 ?_
        refine vx_ret ?_
        refine W.widen (k := 1) (n := 6) (by omega) (by omega) ?_
        exact W.iret (v := zI (σ (22 + q ip) 6)) hx hb hr (fun t9 ht hW => ⟨⟨_, (), rfl, (by rw [show pg.toNat = ip by omega, cd29]; rfl), trivial⟩, vF_R ht hS.1 hk0⟩) hS.2.2 dX7_page_106

set_option maxRecDepth 100000 in
theorem vt54_X7_site : ∀ w ∈ (vx_atS RX7 54 "java/lang/IllegalArgumentException" ["java/lang/RuntimeException", "java/lang/Exception"]).filter goodWord, w ∈ wsX7_site := by decide +kernel
set_option maxHeartbeats 4000000 in
set_option maxRecDepth 100000 in
/-- X7_site -/
theorem c_X7_site (l : Launch) (hlT : l.stackTraces = false) (D : va_G) (cy : Nat → ClassId) (a q : Nat → Nat) (σ : Nat → Nat → Int) (sz : Nat) (wt : Int) (hwt : rg wt) (t0 : Int) (wi : Int) (hO : okA t0 wi q σ) : vx_Met l yX7_site wsX7_site ({ frames := 10, cells := 1, slots := 6, locals := 400 }) (va_Pc [.ref (a 0), .int (zI (wt))] (fun U => U.heap.size = sz ∧ Wd D cy a q σ U)) (va_Qi (fun (r : Int32) (_ : Unit) => r = zI (siF q σ wt)) (fun _ _ => True) (fun _ => False)) (vx_X (fun (_ : Unit) => wt < 0 ∨ 16 < wt) (fun E _ _ => okE E) (fun _ => False)) 1 6 (wF a sz) := by
  refine vx_ofW (cc := cX7_site) (maxL := 2) (ret := (some .int)) (by decide) rfl ?_
  intro p e s m args below meth c s₁ B hml hexc hpc0
  obtain ⟨rfl, hsz, hW0⟩ := hpc0
  have hx := B.exec
  have hb := B.bytes
  have hr := B.returns
  have hts := atoms_spec (ws := wsX7_site) B.pre
  have hown : s.vm.findClass RX7 = some m.cls := findClass_of_methodNamed B.named
  have hlocks := B.notSynchronized
  subst hsz
  obtain ⟨hP00, hE0⟩ := id hW0
  obtain ⟨hK, hinj, hU0, hN0, hstr, hnest⟩ := id hE0
  have hP : va_P D vwCl (wld cy a q σ ++ []) s.heap := by rw [List.append_nil]; exact hP00
  have hD : va_D (wF a s.heap.size) (wld cy a q σ ++ []) := wD_of hinj
  have hA : ∀ x : Nat, s.heap.size ≤ x → wF a s.heap.size x := fun _ h => Or.inr h
  have hS : va_S (wF a s.heap.size) s.heap s.heap [] := va_S.rf
  have hk0 : ∀ x : Nat, x < s.heap.size → s.heap[x]? = s.heap[x]? := fun _ _ => rfl
  have hl := lv_entry ([.ref (a 0), .int (zI (wt))]) (n := 2) (Nat.le_of_ble_eq_true rfl)
  rw [lg_entry_eq]
  generalize (lg_sl ([.ref (a 0), .int (zI (wt))]) ++ List.replicate (2 - (lg_sl ([.ref (a 0), .int (zI (wt))])).length) Slot.unset).toArray = ls at hl ⊢
  have hl : lv_has ls 2 [(0, .ref (a 0)), (1, .int (zI (wt)))] := hl
  have k10 := hts (.fieldLink RX7 10 "Slewfree" "weather" "LSlewfree$Weather;") (by decide +kernel)
  have k42 := hts (.fieldLink RX7 42 "Slewfree" "log" "LSlewfree$Log;") (by decide +kernel)
  have k57 := hts (.fieldLink RX7 57 "Slewfree" "craneCount" "I") (by decide +kernel)
  have k104 := hts (.fieldLink RX7 104 "Slewfree$Weather" "wind" "I") (by decide +kernel)
  have k117 := hts (.fieldLink RX7 117 "Slewfree" "zoneCount" "I") (by decide +kernel)
  have k139 := hts (.fieldLink RX7 139 "Slewfree" "meetingCount" "I") (by decide +kernel)
  have k161 := hts (.fieldLink RX7 161 "Slewfree$Weather" "base" "I") (by decide +kernel)
  have k164 := hts (.fieldLink RX7 164 "Slewfree$Weather" "gusts" "I") (by decide +kernel)
  have k167 := hts (.fieldLink RX7 167 "Slewfree$Weather" "direction" "I") (by decide +kernel)
  have k172 := hts (.fieldLink RX7 172 "Slewfree$Weather" "minute" "I") (by decide +kernel)
  have k238 := hts (.fieldLink RX7 238 "Slewfree" "refusedCount" "I") (by decide +kernel)
  have k274 := hts (.fieldLink RX7 274 "Slewfree$Weather" "luck" "I") (by decide +kernel)
  have k277 := hts (.fieldLink RX7 277 "Slewfree$Weather" "lostMinutes" "I") (by decide +kernel)
  have k283 := hts (.fieldLink RX7 283 "Slewfree$Log" "count" "I") (by decide +kernel)
  have k286 := hts (.fieldLink RX7 286 "Slewfree$Log" "written" "I") (by decide +kernel)
  have inX1 : ∀ w ∈ u_ws RX1 TX1 4, w ∈ wsX7_site := by decide +kernel
  have inX5 : ∀ w ∈ u_ws RX5 TX5 7, w ∈ wsX7_site := by decide +kernel
  have inX7 : ∀ w ∈ u_ws RX7 TX7 9, w ∈ wsX7_site := by decide +kernel
  obtain ⟨oS, oW, oC, oZ, oM, oL, oP, oQ, oH⟩ := id hO
  unfold okS at oS; unfold okW at oW; unfold okL at oL
  refine lv_iload_n hx hb dX7_site_0 rfl (lv_at hl 1 rfl) ?_
  have hx1 : (zI (wt)).toInt = wt := zI_toInt (by omega)
  by_cases cd1 : wt < 0 ∨ 16 < wt
  · refine lv_tableOut (tgt := 213) hx hb dX7_site_1 (by rw [hx1]; exact cd1) (by decide) ?_
    obtain ⟨sa9, hsa9⟩ := hstr (295, "what is 0 to 16") (by decide)
    exact vx_throwSW (names := ["java/lang/RuntimeException", "java/lang/Exception"]) (sa := sa9) hx hb hlT hown (by decide +kernel) (by decide +kernel) (hts (.classLink RX7 50 "java/lang/IllegalArgumentException") (by decide +kernel)) (hts (.initialized "java/lang/IllegalArgumentException") (by decide +kernel)) hsa9 (vx_hat (fun w h => hts w (vt54_X7_site w h)) vf54 hnest.2.2.1.bad) vg54 hU0 hN0 hS (by rw [hml]; exact hl.1) dX7_site_213 dX7_site_216 dX7_site_217 dX7_site_220 dX7_site_223 (fun x h => (hexc x h).elim) (Nat.le_of_ble_eq_true rfl) (Nat.le_of_ble_eq_true rfl) (show 0 + 1 ≤ 1 by omega) (show 0 + 6 ≤ 6 by omega) hlocks (fun t9 hvm9 hz9 hk9 => ⟨(), (by omega), okE_A, Nat.le_trans hS.1 hz9, fun x h9 _ => (hk9 x (Nat.lt_of_lt_of_le h9 hS.1)).trans (hk0 x h9)⟩) hS.2.2 (by omega) (by omega)
  · rcases (show wt = 0 ∨ wt = 1 ∨ wt = 2 ∨ wt = 3 ∨ wt = 4 ∨ wt = 5 ∨ wt = 6 ∨ wt = 7 ∨ wt = 8 ∨ wt = 9 ∨ wt = 10 ∨ wt = 11 ∨ wt = 12 ∨ wt = 13 ∨ wt = 14 ∨ wt = 15 ∨ wt = 16 by omega) with cd1 | cd1 | cd1 | cd1 | cd1 | cd1 | cd1 | cd1 | cd1 | cd1 | cd1 | cd1 | cd1 | cd1 | cd1 | cd1 | cd1
    · refine lv_tableIn (off := 83) (tgt := 84) hx hb dX7_site_1 (by rw [hx1]; omega) (by rw [hx1]; omega) (by rw [hx1, cd1]; rfl) (by decide) ?_
      refine lv_aload_n hx hb dX7_site_84 rfl (lv_at hl 0 rfl) ?_
      refine va_get (D := D) (ci := 9) (v := .ref (a 1)) (C := RX7) (T := TX7) (N := 9) hx hb hts inX7 hown hK hP 0 wg_S rfl 0 (by decide) k10 (fun _ h9 => h9) rfl dX7_site_85 ?_
      refine va_get (D := D) (ci := 7) (v := .int (zI (σ 1 0))) (C := RX5) (T := TX5) (N := 7) hx hb hts inX5 hown hK hP 1 wg_W rfl 0 (by decide) k172 (fun _ h9 => h9) rfl dX7_site_88 ?_
      refine vx_ret ?_
      refine W.widen (k := 1) (n := 6) (by omega) (by omega) ?_
      exact W.iret (v := zI (σ 1 0)) hx hb hr (fun t9 ht hW => ⟨⟨_, (), rfl, (by rw [cd1]; rfl), trivial⟩, vF_R ht hS.1 hk0⟩) hS.2.2 dX7_site_91
    · refine lv_tableIn (off := 91) (tgt := 92) hx hb dX7_site_1 (by rw [hx1]; omega) (by rw [hx1]; omega) (by rw [hx1, cd1]; rfl) (by decide) ?_
      refine lv_aload_n hx hb dX7_site_92 rfl (lv_at hl 0 rfl) ?_
      refine va_get (D := D) (ci := 9) (v := .ref (a 1)) (C := RX7) (T := TX7) (N := 9) hx hb hts inX7 hown hK hP 0 wg_S rfl 0 (by decide) k10 (fun _ h9 => h9) rfl dX7_site_93 ?_
      refine va_calli (va_runV (As := []) (rest := []) ⟨hx, hb, hml, hown, hts⟩ (c_X5_hour l D cy a q σ s.heap.size (by omega)) (cwV 0 hts gX7_site_X5_hour rfl rfl rfl (by decide +kernel) ⟨Nat.le_of_ble_eq_true rfl, Nat.le_of_ble_eq_true rfl⟩) ⟨Wd_blind, va_recv hK hP (ci := 7) (q0 := 1) rfl wg_W, fun U hU hW => ⟨rfl, by rw [hU], Wd_mk (wP_left hP) hE0 hS hU hW⟩⟩ rfl rfl hl.1 rfl (lv_room (Nat.le_of_ble_eq_true rfl)) dX7_site_96 ⟨(show 0 + 0 ≤ 1 by omega), (show 0 + 0 ≤ 6 by omega)⟩) hS (fun _ _ h => h.elim) (fun _ h => wF_mono hS.1 _ h) (fun rv96 u9 t9 H locs ht hvm hw hB hz hk hS1 => ?_)
      have hP := hP.kept (fun k x hk9 => hk x.1 ((hP k x hk9).lt) (fun h => h))
      have hk0 : ∀ x : Nat, x < s.heap.size → H[x]? = s.heap[x]? := fun x h9 => (hk x (Nat.lt_of_lt_of_le h9 hS.1) (fun h => h)).trans (hk0 x h9)
      have hS := hS1
      obtain rfl := hw
      refine vx_ret ?_
      refine W.widen (k := 1) (n := 6) (by omega) (by omega) ?_
      exact W.iret (v := zI (hrF (σ 1))) hx hb hr (fun t9 ht hW => ⟨⟨_, (), rfl, (by rw [cd1]; rfl), trivial⟩, vF_R ht hS.1 hk0⟩) hS.2.2 dX7_site_99
    · refine lv_tableIn (off := 99) (tgt := 100) hx hb dX7_site_1 (by rw [hx1]; omega) (by rw [hx1]; omega) (by rw [hx1, cd1]; rfl) (by decide) ?_
      refine lv_aload_n hx hb dX7_site_100 rfl (lv_at hl 0 rfl) ?_
      refine va_get (D := D) (ci := 9) (v := .ref (a 1)) (C := RX7) (T := TX7) (N := 9) hx hb hts inX7 hown hK hP 0 wg_S rfl 0 (by decide) k10 (fun _ h9 => h9) rfl dX7_site_101 ?_
      refine va_get (D := D) (ci := 7) (v := .int (zI (σ 1 5))) (C := RX5) (T := TX5) (N := 7) hx hb hts inX5 hown hK hP 1 wg_W rfl 5 (by decide) k104 (fun _ h9 => h9) rfl dX7_site_104 ?_
      refine vx_ret ?_
      refine W.widen (k := 1) (n := 6) (by omega) (by omega) ?_
      exact W.iret (v := zI (σ 1 5)) hx hb hr (fun t9 ht hW => ⟨⟨_, (), rfl, (by rw [cd1]; rfl), trivial⟩, vF_R ht hS.1 hk0⟩) hS.2.2 dX7_site_107
    · refine lv_tableIn (off := 107) (tgt := 108) hx hb dX7_site_1 (by rw [hx1]; omega) (by rw [hx1]; omega) (by rw [hx1, cd1]; rfl) (by decide) ?_
      refine lv_aload_n hx hb dX7_site_108 rfl (lv_at hl 0 rfl) ?_
      refine va_get (D := D) (ci := 9) (v := .ref (a 1)) (C := RX7) (T := TX7) (N := 9) hx hb hts inX7 hown hK hP 0 wg_S rfl 0 (by decide) k10 (fun _ h9 => h9) rfl dX7_site_109 ?_
      refine va_get (D := D) (ci := 7) (v := .int (zI (σ 1 2))) (C := RX5) (T := TX5) (N := 7) hx hb hts inX5 hown hK hP 1 wg_W rfl 2 (by decide) k161 (fun _ h9 => h9) rfl dX7_site_112 ?_
      refine vx_ret ?_
      refine W.widen (k := 1) (n := 6) (by omega) (by omega) ?_
      exact W.iret (v := zI (σ 1 2)) hx hb hr (fun t9 ht hW => ⟨⟨_, (), rfl, (by rw [cd1]; rfl), trivial⟩, vF_R ht hS.1 hk0⟩) hS.2.2 dX7_site_115
    · refine lv_tableIn (off := 115) (tgt := 116) hx hb dX7_site_1 (by rw [hx1]; omega) (by rw [hx1]; omega) (by rw [hx1, cd1]; rfl) (by decide) ?_
      refine lv_aload_n hx hb dX7_site_116 rfl (lv_at hl 0 rfl) ?_
      refine va_get (D := D) (ci := 9) (v := .ref (a 1)) (C := RX7) (T := TX7) (N := 9) hx hb hts inX7 hown hK hP 0 wg_S rfl 0 (by decide) k10 (fun _ h9 => h9) rfl dX7_site_117 ?_
      refine va_get (D := D) (ci := 7) (v := .int (zI (σ 1 3))) (C := RX5) (T := TX5) (N := 7) hx hb hts inX5 hown hK hP 1 wg_W rfl 3 (by decide) k164 (fun _ h9 => h9) rfl dX7_site_120 ?_
      refine vx_ret ?_
      refine W.widen (k := 1) (n := 6) (by omega) (by omega) ?_
      exact W.iret (v := zI (σ 1 3)) hx hb hr (fun t9 ht hW => ⟨⟨_, (), rfl, (by rw [cd1]; rfl), trivial⟩, vF_R ht hS.1 hk0⟩) hS.2.2 dX7_site_123
    · refine lv_tableIn (off := 123) (tgt := 124) hx hb dX7_site_1 (by rw [hx1]; omega) (by rw [hx1]; omega) (by rw [hx1, cd1]; rfl) (by decide) ?_
      refine lv_aload_n hx hb dX7_site_124 rfl (lv_at hl 0 rfl) ?_
      refine va_get (D := D) (ci := 9) (v := .ref (a 1)) (C := RX7) (T := TX7) (N := 9) hx hb hts inX7 hown hK hP 0 wg_S rfl 0 (by decide) k10 (fun _ h9 => h9) rfl dX7_site_125 ?_
      refine va_get (D := D) (ci := 7) (v := .int (zI (σ 1 4))) (C := RX5) (T := TX5) (N := 7) hx hb hts inX5 hown hK hP 1 wg_W rfl 4 (by decide) k167 (fun _ h9 => h9) rfl dX7_site_128 ?_
      refine vx_ret ?_
      refine W.widen (k := 1) (n := 6) (by omega) (by omega) ?_
      exact W.iret (v := zI (σ 1 4)) hx hb hr (fun t9 ht hW => ⟨⟨_, (), rfl, (by rw [cd1]; rfl), trivial⟩, vF_R ht hS.1 hk0⟩) hS.2.2 dX7_site_131
    · refine lv_tableIn (off := 131) (tgt := 132) hx hb dX7_site_1 (by rw [hx1]; omega) (by rw [hx1]; omega) (by rw [hx1, cd1]; rfl) (by decide) ?_
      refine lv_aload_n hx hb dX7_site_132 rfl (lv_at hl 0 rfl) ?_
      refine va_get (D := D) (ci := 9) (v := .ref (a 1)) (C := RX7) (T := TX7) (N := 9) hx hb hts inX7 hown hK hP 0 wg_S rfl 0 (by decide) k10 (fun _ h9 => h9) rfl dX7_site_133 ?_
      refine va_get (D := D) (ci := 7) (v := .int (zI (σ 1 1))) (C := RX5) (T := TX5) (N := 7) hx hb hts inX5 hown hK hP 1 wg_W rfl 1 (by decide) k274 (fun _ h9 => h9) rfl dX7_site_136 ?_
      refine vx_ret ?_
      refine W.widen (k := 1) (n := 6) (by omega) (by omega) ?_
      exact W.iret (v := zI (σ 1 1)) hx hb hr (fun t9 ht hW => ⟨⟨_, (), rfl, (by rw [cd1]; rfl), trivial⟩, vF_R ht hS.1 hk0⟩) hS.2.2 dX7_site_139
    · refine lv_tableIn (off := 139) (tgt := 140) hx hb dX7_site_1 (by rw [hx1]; omega) (by rw [hx1]; omega) (by rw [hx1, cd1]; rfl) (by decide) ?_
      refine lv_aload_n hx hb dX7_site_140 rfl (lv_at hl 0 rfl) ?_
      refine va_get (D := D) (ci := 9) (v := .ref (a 1)) (C := RX7) (T := TX7) (N := 9) hx hb hts inX7 hown hK hP 0 wg_S rfl 0 (by decide) k10 (fun _ h9 => h9) rfl dX7_site_141 ?_
      refine va_get (D := D) (ci := 7) (v := .int (zI (σ 1 6))) (C := RX5) (T := TX5) (N := 7) hx hb hts inX5 hown hK hP 1 wg_W rfl 6 (by decide) k277 (fun _ h9 => h9) rfl dX7_site_144 ?_
      refine vx_ret ?_
      refine W.widen (k := 1) (n := 6) (by omega) (by omega) ?_
      exact W.iret (v := zI (σ 1 6)) hx hb hr (fun t9 ht hW => ⟨⟨_, (), rfl, (by rw [cd1]; rfl), trivial⟩, vF_R ht hS.1 hk0⟩) hS.2.2 dX7_site_147
    · refine lv_tableIn (off := 147) (tgt := 148) hx hb dX7_site_1 (by rw [hx1]; omega) (by rw [hx1]; omega) (by rw [hx1, cd1]; rfl) (by decide) ?_
      refine lv_aload_n hx hb dX7_site_148 rfl (lv_at hl 0 rfl) ?_
      refine va_get (D := D) (ci := 9) (v := .int (zI (σ 0 5))) (C := RX7) (T := TX7) (N := 9) hx hb hts inX7 hown hK hP 0 wg_S rfl 5 (by decide) k57 (fun _ h9 => h9) rfl dX7_site_149 ?_
      refine vx_ret ?_
      refine W.widen (k := 1) (n := 6) (by omega) (by omega) ?_
      exact W.iret (v := zI (σ 0 5)) hx hb hr (fun t9 ht hW => ⟨⟨_, (), rfl, (by rw [cd1]; rfl), trivial⟩, vF_R ht hS.1 hk0⟩) hS.2.2 dX7_site_152
    · refine lv_tableIn (off := 152) (tgt := 153) hx hb dX7_site_1 (by rw [hx1]; omega) (by rw [hx1]; omega) (by rw [hx1, cd1]; rfl) (by decide) ?_
      refine lv_aload_n hx hb dX7_site_153 rfl (lv_at hl 0 rfl) ?_
      refine va_get (D := D) (ci := 9) (v := .int (zI (σ 0 6))) (C := RX7) (T := TX7) (N := 9) hx hb hts inX7 hown hK hP 0 wg_S rfl 6 (by decide) k117 (fun _ h9 => h9) rfl dX7_site_154 ?_
      refine vx_ret ?_
      refine W.widen (k := 1) (n := 6) (by omega) (by omega) ?_
      exact W.iret (v := zI (σ 0 6)) hx hb hr (fun t9 ht hW => ⟨⟨_, (), rfl, (by rw [cd1]; rfl), trivial⟩, vF_R ht hS.1 hk0⟩) hS.2.2 dX7_site_157
    · refine lv_tableIn (off := 157) (tgt := 158) hx hb dX7_site_1 (by rw [hx1]; omega) (by rw [hx1]; omega) (by rw [hx1, cd1]; rfl) (by decide) ?_
      refine lv_aload_n hx hb dX7_site_158 rfl (lv_at hl 0 rfl) ?_
      refine va_calli (va_runV (As := []) (rest := []) ⟨hx, hb, hml, hown, hts⟩ (c_X7_shutZones l D cy a q σ s.heap.size _ _ hO) (cwV 0 hts gX7_site_X7_shutZones rfl rfl rfl (by decide +kernel) ⟨Nat.le_of_ble_eq_true rfl, Nat.le_of_ble_eq_true rfl⟩) ⟨Wd_blind, va_recv hK hP (ci := 9) (q0 := 0) rfl wg_S, fun U hU hW => ⟨rfl, by rw [hU], Wd_mk (wP_left hP) hE0 hS hU hW⟩⟩ rfl rfl hl.1 rfl (lv_room (Nat.le_of_ble_eq_true rfl)) dX7_site_159 ⟨(show 0 + 0 ≤ 1 by omega), (show 0 + 0 ≤ 6 by omega)⟩) hS (fun _ _ h => h.elim) (fun _ h => wF_mono hS.1 _ h) (fun rv159 u9 t9 H locs ht hvm hw hB hz hk hS1 => ?_)
      have hP := hP.kept (fun k x hk9 => hk x.1 ((hP k x hk9).lt) (fun h => h))
      have hk0 : ∀ x : Nat, x < s.heap.size → H[x]? = s.heap[x]? := fun x h9 => (hk x (Nat.lt_of_lt_of_le h9 hS.1) (fun h => h)).trans (hk0 x h9)
      have hS := hS1
      obtain rfl := hw
      refine vx_ret ?_
      refine W.widen (k := 1) (n := 6) (by omega) (by omega) ?_
      exact W.iret (v := zI (shN σ (σ 0 6).toNat)) hx hb hr (fun t9 ht hW => ⟨⟨_, (), rfl, (by rw [cd1]; rfl), trivial⟩, vF_R ht hS.1 hk0⟩) hS.2.2 dX7_site_162
    · refine lv_tableIn (off := 162) (tgt := 163) hx hb dX7_site_1 (by rw [hx1]; omega) (by rw [hx1]; omega) (by rw [hx1, cd1]; rfl) (by decide) ?_
      refine lv_aload_n hx hb dX7_site_163 rfl (lv_at hl 0 rfl) ?_
      refine va_get (D := D) (ci := 9) (v := .int (zI (σ 0 7))) (C := RX7) (T := TX7) (N := 9) hx hb hts inX7 hown hK hP 0 wg_S rfl 7 (by decide) k139 (fun _ h9 => h9) rfl dX7_site_164 ?_
      refine vx_ret ?_
      refine W.widen (k := 1) (n := 6) (by omega) (by omega) ?_
      exact W.iret (v := zI (σ 0 7)) hx hb hr (fun t9 ht hW => ⟨⟨_, (), rfl, (by rw [cd1]; rfl), trivial⟩, vF_R ht hS.1 hk0⟩) hS.2.2 dX7_site_167
    · refine lv_tableIn (off := 167) (tgt := 168) hx hb dX7_site_1 (by rw [hx1]; omega) (by rw [hx1]; omega) (by rw [hx1, cd1]; rfl) (by decide) ?_
      refine lv_aload_n hx hb dX7_site_168 rfl (lv_at hl 0 rfl) ?_
      refine va_get (D := D) (ci := 9) (v := .ref (a 20)) (C := RX7) (T := TX7) (N := 9) hx hb hts inX7 hown hK hP 0 wg_S rfl 4 (by decide) k42 (fun _ h9 => h9) rfl dX7_site_169 ?_
      refine va_get (D := D) (ci := 3) (v := .int (zI (σ 20 1))) (C := RX1) (T := TX1) (N := 4) hx hb hts inX1 hown hK hP 20 wg_L rfl 1 (by decide) k283 (fun _ h9 => h9) rfl dX7_site_172 ?_
      refine vx_ret ?_
      refine W.widen (k := 1) (n := 6) (by omega) (by omega) ?_
      exact W.iret (v := zI (σ 20 1)) hx hb hr (fun t9 ht hW => ⟨⟨_, (), rfl, (by rw [cd1]; rfl), trivial⟩, vF_R ht hS.1 hk0⟩) hS.2.2 dX7_site_175
    · refine lv_tableIn (off := 175) (tgt := 176) hx hb dX7_site_1 (by rw [hx1]; omega) (by rw [hx1]; omega) (by rw [hx1, cd1]; rfl) (by decide) ?_
      refine lv_aload_n hx hb dX7_site_176 rfl (lv_at hl 0 rfl) ?_
      refine va_get (D := D) (ci := 9) (v := .ref (a 20)) (C := RX7) (T := TX7) (N := 9) hx hb hts inX7 hown hK hP 0 wg_S rfl 4 (by decide) k42 (fun _ h9 => h9) rfl dX7_site_177 ?_
      refine va_get (D := D) (ci := 3) (v := .int (zI (σ 20 2))) (C := RX1) (T := TX1) (N := 4) hx hb hts inX1 hown hK hP 20 wg_L rfl 2 (by decide) k286 (fun _ h9 => h9) rfl dX7_site_180 ?_
      refine vx_ret ?_
      refine W.widen (k := 1) (n := 6) (by omega) (by omega) ?_
      exact W.iret (v := zI (σ 20 2)) hx hb hr (fun t9 ht hW => ⟨⟨_, (), rfl, (by rw [cd1]; rfl), trivial⟩, vF_R ht hS.1 hk0⟩) hS.2.2 dX7_site_183
    · refine lv_tableIn (off := 183) (tgt := 184) hx hb dX7_site_1 (by rw [hx1]; omega) (by rw [hx1]; omega) (by rw [hx1, cd1]; rfl) (by decide) ?_
      refine lv_aload_n hx hb dX7_site_184 rfl (lv_at hl 0 rfl) ?_
      refine va_get (D := D) (ci := 9) (v := .ref (a 20)) (C := RX7) (T := TX7) (N := 9) hx hb hts inX7 hown hK hP 0 wg_S rfl 4 (by decide) k42 (fun _ h9 => h9) rfl dX7_site_185 ?_
      refine va_calli (va_runV (As := []) (rest := []) ⟨hx, hb, hml, hown, hts⟩ (c_X1_isWhole l D cy a q σ s.heap.size _ _ hO) (cwV 0 hts gX7_site_X1_isWhole rfl rfl rfl (by decide +kernel) ⟨Nat.le_of_ble_eq_true rfl, Nat.le_of_ble_eq_true rfl⟩) ⟨Wd_blind, va_recv hK hP (ci := 3) (q0 := 20) rfl wg_L, fun U hU hW => ⟨rfl, by rw [hU], Wd_mk (wP_left hP) hE0 hS hU hW⟩⟩ rfl rfl hl.1 rfl (lv_room (Nat.le_of_ble_eq_true rfl)) dX7_site_188 ⟨(show 0 + 0 ≤ 1 by omega), (show 0 + 0 ≤ 6 by omega)⟩) hS (fun _ _ h => h.elim) (fun _ h => wF_mono hS.1 _ h) (fun rv188 u9 t9 H locs ht hvm hw hB hz hk hS1 => ?_)
      have hP := hP.kept (fun k x hk9 => hk x.1 ((hP k x hk9).lt) (fun h => h))
      have hk0 : ∀ x : Nat, x < s.heap.size → H[x]? = s.heap[x]? := fun x h9 => (hk x (Nat.lt_of_lt_of_le h9 hS.1) (fun h => h)).trans (hk0 x h9)
      have hS := hS1
      rcases hw with ⟨rfl, bd188⟩ | ⟨rfl, bd188⟩
      · skip
        refine z_if_eq (tgt := 198) hx hb dX7_site_191 (by decide) (by decide) (fun cd191 => absurd cd191 (by decide)) (fun _ => ?_)
        refine lv_iconst (v := zI 1) hx hb dX7_site_194 rfl ?_
        refine lv_goto (tgt := 199) hx hb dX7_site_195 (by decide) ?_
        refine vx_ret ?_
        refine W.widen (k := 1) (n := 6) (by omega) (by omega) ?_
        exact W.iret (v := zI (1)) hx hb hr (fun t9 ht hW => ⟨⟨_, (), rfl, (by rw [cd1]; show zI 1 = zI (if σ 20 1 = σ 20 2 ∧ faF q σ = -1 then 1 else 0); rw [if_pos bd188]), trivial⟩, vF_R ht hS.1 hk0⟩) hS.2.2 dX7_site_199
      · skip
        refine z_if_eq (tgt := 198) hx hb dX7_site_191 (by decide) (by decide) (fun _ => ?_) (fun cd191 => absurd cd191 (by decide))
        refine lv_iconst (v := zI 0) hx hb dX7_site_198 rfl ?_
        refine vx_ret ?_
        refine W.widen (k := 1) (n := 6) (by omega) (by omega) ?_
        exact W.iret (v := zI (0)) hx hb hr (fun t9 ht hW => ⟨⟨_, (), rfl, (by rw [cd1]; show zI 0 = zI (if σ 20 1 = σ 20 2 ∧ faF q σ = -1 then 1 else 0); rw [if_neg bd188]), trivial⟩, vF_R ht hS.1 hk0⟩) hS.2.2 dX7_site_199
    · refine lv_tableIn (off := 199) (tgt := 200) hx hb dX7_site_1 (by rw [hx1]; omega) (by rw [hx1]; omega) (by rw [hx1, cd1]; rfl) (by decide) ?_
      refine lv_aload_n hx hb dX7_site_200 rfl (lv_at hl 0 rfl) ?_
      refine va_get (D := D) (ci := 9) (v := .ref (a 20)) (C := RX7) (T := TX7) (N := 9) hx hb hts inX7 hown hK hP 0 wg_S rfl 4 (by decide) k42 (fun _ h9 => h9) rfl dX7_site_201 ?_
      refine va_calli (va_runV (As := []) (rest := []) ⟨hx, hb, hml, hown, hts⟩ (c_X1_fault l D cy a q σ s.heap.size _ _ hO) (cwV 0 hts gX7_site_X1_fault rfl rfl rfl (by decide +kernel) ⟨Nat.le_of_ble_eq_true rfl, Nat.le_of_ble_eq_true rfl⟩) ⟨Wd_blind, va_recv hK hP (ci := 3) (q0 := 20) rfl wg_L, fun U hU hW => ⟨rfl, by rw [hU], Wd_mk (wP_left hP) hE0 hS hU hW⟩⟩ rfl rfl hl.1 rfl (lv_room (Nat.le_of_ble_eq_true rfl)) dX7_site_204 ⟨(show 0 + 0 ≤ 1 by omega), (show 0 + 0 ≤ 6 by omega)⟩) hS (fun _ _ h => h.elim) (fun _ h => wF_mono hS.1 _ h) (fun rv204 u9 t9 H locs ht hvm hw hB hz hk hS1 => ?_)
      have hP := hP.kept (fun k x hk9 => hk x.1 ((hP k x hk9).lt) (fun h => h))
      have hk0 : ∀ x : Nat, x < s.heap.size → H[x]? = s.heap[x]? := fun x h9 => (hk x (Nat.lt_of_lt_of_le h9 hS.1) (fun h => h)).trans (hk0 x h9)
      have hS := hS1
      obtain rfl := hw
      refine vx_ret ?_
      refine W.widen (k := 1) (n := 6) (by omega) (by omega) ?_
      exact W.iret (v := zI (faF q σ)) hx hb hr (fun t9 ht hW => ⟨⟨_, (), rfl, (by rw [cd1]; rfl), trivial⟩, vF_R ht hS.1 hk0⟩) hS.2.2 dX7_site_207
    · refine lv_tableIn (off := 207) (tgt := 208) hx hb dX7_site_1 (by rw [hx1]; omega) (by rw [hx1]; omega) (by rw [hx1, cd1]; rfl) (by decide) ?_
      refine lv_aload_n hx hb dX7_site_208 rfl (lv_at hl 0 rfl) ?_
      refine va_get (D := D) (ci := 9) (v := .int (zI (σ 0 8))) (C := RX7) (T := TX7) (N := 9) hx hb hts inX7 hown hK hP 0 wg_S rfl 8 (by decide) k238 (fun _ h9 => h9) rfl dX7_site_209 ?_
      refine vx_ret ?_
      refine W.widen (k := 1) (n := 6) (by omega) (by omega) ?_
      exact W.iret (v := zI (σ 0 8)) hx hb hr (fun t9 ht hW => ⟨⟨_, (), rfl, (by rw [cd1]; rfl), trivial⟩, vF_R ht hS.1 hk0⟩) hS.2.2 dX7_site_212

set_option maxRecDepth 100000 in
theorem vt54_X7_capacity : ∀ w ∈ (vx_atS RX7 54 "java/lang/IllegalArgumentException" ["java/lang/RuntimeException", "java/lang/Exception"]).filter goodWord, w ∈ wsX7_capacity := by decide +kernel
set_option maxHeartbeats 4000000 in
set_option maxRecDepth 100000 in
/-- X7_capacity -/
theorem c_X7_capacity (l : Launch) (hlT : l.stackTraces = false) (D : va_G) (cy : Nat → ClassId) (a q : Nat → Nat) (σ : Nat → Nat → Int) (sz : Nat) (n0 : Int) (hn0 : rg n0) (d : Int) (hd : rg d) (t0 : Int) (wi : Int) (hO : okA t0 wi q σ) : vx_Met l yX7_capacity wsX7_capacity ({ frames := 10, cells := 2, slots := 12, locals := 400 }) (va_Pc [.ref (a 0), .int (zI (n0)), .int (zI (d))] (fun U => U.heap.size = sz ∧ Wd D cy a q σ U)) (va_Qi (fun (r : Int32) (_ : Unit) => r = zI (cpF (σ (3 + n0.toNat)) d (σ 1 5))) (fun _ _ => True) (fun _ => False)) (vx_X (fun (_ : Unit) => n0 < 0 ∨ σ 0 5 ≤ n0 ∨ d < 10 ∨ σ (3 + n0.toNat) 1 < d) (fun E _ _ => okE E) (fun _ => False)) 2 12 (wF a sz) := by
  refine vx_ofW (cc := cX7_capacity) (maxL := 4) (ret := (some .int)) (by decide) rfl ?_
  intro p e s m args below meth c s₁ B hml hexc hpc0
  obtain ⟨rfl, hsz, hW0⟩ := hpc0
  have hx := B.exec
  have hb := B.bytes
  have hr := B.returns
  have hts := atoms_spec (ws := wsX7_capacity) B.pre
  have hown : s.vm.findClass RX7 = some m.cls := findClass_of_methodNamed B.named
  have hlocks := B.notSynchronized
  subst hsz
  obtain ⟨hP00, hE0⟩ := id hW0
  obtain ⟨hK, hinj, hU0, hN0, hstr, hnest⟩ := id hE0
  have hP : va_P D vwCl (wld cy a q σ ++ []) s.heap := by rw [List.append_nil]; exact hP00
  have hD : va_D (wF a s.heap.size) (wld cy a q σ ++ []) := wD_of hinj
  have hA : ∀ x : Nat, s.heap.size ≤ x → wF a s.heap.size x := fun _ h => Or.inr h
  have hS : va_S (wF a s.heap.size) s.heap s.heap [] := va_S.rf
  have hk0 : ∀ x : Nat, x < s.heap.size → s.heap[x]? = s.heap[x]? := fun _ _ => rfl
  have hl := lv_entry ([.ref (a 0), .int (zI (n0)), .int (zI (d))]) (n := 4) (Nat.le_of_ble_eq_true rfl)
  rw [lg_entry_eq]
  generalize (lg_sl ([.ref (a 0), .int (zI (n0)), .int (zI (d))]) ++ List.replicate (4 - (lg_sl ([.ref (a 0), .int (zI (n0)), .int (zI (d))])).length) Slot.unset).toArray = ls at hl ⊢
  have hl : lv_has ls 4 [(0, .ref (a 0)), (1, .int (zI (n0))), (2, .int (zI (d)))] := hl
  have k10 := hts (.fieldLink RX7 10 "Slewfree" "weather" "LSlewfree$Weather;") (by decide +kernel)
  have k66 := hts (.fieldLink RX7 66 "Slewfree$Crane" "reach" "I") (by decide +kernel)
  have k104 := hts (.fieldLink RX7 104 "Slewfree$Weather" "wind" "I") (by decide +kernel)
  have inX0 : ∀ w ∈ u_ws RX0 TX0 12, w ∈ wsX7_capacity := by decide +kernel
  have inX5 : ∀ w ∈ u_ws RX5 TX5 7, w ∈ wsX7_capacity := by decide +kernel
  have inX7 : ∀ w ∈ u_ws RX7 TX7 9, w ∈ wsX7_capacity := by decide +kernel
  obtain ⟨oS, oW, oC, oZ, oM, oL, oP, oQ, oH⟩ := id hO
  unfold okS at oS; unfold okW at oW; unfold okL at oL
  refine lv_aload_n hx hb dX7_capacity_0 rfl (lv_at hl 0 rfl) ?_
  refine lv_iload_n hx hb dX7_capacity_1 rfl (lv_at hl 1 rfl) ?_
  refine vx_callr (vx_runV (As := [.int (zI (n0))]) (rest := []) ⟨hx, hb, hml, hown, hts⟩ (c_X7_craneAt l hlT D cy a q σ s.heap.size (n0) (by omega) (by first | assumption | omega)) (cwV 1 hts gX7_capacity_X7_craneAt rfl rfl rfl (by decide +kernel) ⟨Nat.le_of_ble_eq_true rfl, Nat.le_of_ble_eq_true rfl⟩) ⟨Wd_blind, va_recv hK hP (ci := 9) (q0 := 0) rfl wg_S, fun U hU hW => ⟨rfl, by rw [hU], Wd_mk (wP_left hP) hE0 hS hU hW⟩⟩ rfl rfl hl.1 rfl (lv_room (Nat.le_of_ble_eq_true rfl)) dX7_capacity_2 ⟨(show 0 + 1 ≤ 2 by omega), (show 0 + 6 ≤ 12 by omega)⟩) hS (fun _ _ h => h.elim) (fun _ h => wF_mono hS.1 _ h) (fun _ _ h => h.elim) (fun E9 ce9 q9 u9 t9 H locs ht hvm hpx hE hz hk hS1 hce hcv hcl => ?_) (fun u9 ra9 t9 H locs ht hvm hw hB hz hk hS1 => ?_)
  · skip
    refine vx_widen (k := 2) (n := 12) (by omega) (by omega) ?_
    exact vx_out (fun x h => (hexc x h).elim) hlocks hce hcv hcl (fun t9 ht9 hvm9 => ⟨(), (by omega), hE, vF_R ht9 (Nat.le_trans hS.1 hz) (fun x h9 => (hk x (Nat.lt_of_lt_of_le h9 hS.1) (fun h => h)).trans (hk0 x h9))⟩) hS1.2.2 (Nat.le_refl _) (Nat.le_refl _)
  · skip
    have hP := hP.kept (fun k x hk9 => hk x.1 ((hP k x hk9).lt) (fun h => h))
    have hk0 : ∀ x : Nat, x < s.heap.size → H[x]? = s.heap[x]? := fun x h9 => (hk x (Nat.lt_of_lt_of_le h9 hS.1) (fun h => h)).trans (hk0 x h9)
    have hS := hS1
    subst hB
    obtain ⟨ic2, eic2⟩ : ∃ z : Nat, z = u9 := ⟨u9, rfl⟩
    rw [← eic2] at hw ⊢
    have hi2 := hw
    have oC_a := oC ic2 (by omega); unfold okC at oC_a
    refine lv_astore_n (lv' := [(3, .ref (a (3 + ic2))), (0, .ref (a 0)), (1, .int (zI (n0))), (2, .int (zI (d)))]) hx hb dX7_capacity_5 rfl hl (by decide) rfl (fun ls hl => ?_)
    refine lv_iload_n hx hb dX7_capacity_6 rfl (lv_at hl 3 rfl) ?_
    refine lv_bipush (v := zI 10) hx hb dX7_capacity_7 (by decide +kernel) ?_
    refine lv_aload_n hx hb dX7_capacity_9 rfl (lv_at hl 0 rfl) ?_
    refine va_get (D := D) (ci := 2) (v := .int (zI (σ (3 + ic2) 1))) (C := RX0) (T := TX0) (N := 12) hx hb hts inX0 hown hK hP (3 + ic2) (wg_C (i := ic2) (by first | assumption | omega)) rfl 1 (by decide) k66 (fun _ h9 => h9) rfl dX7_capacity_10 ?_
    refine va_calli (va_runS (As := [.int (zI (d)), .int (zI (10)), .int (zI (σ (3 + ic2) 1))]) (rest := []) ⟨hx, hb, hml, hown, hts⟩ (c_X7_isOutside l (d) (by omega) (10) (by omega) (σ (3 + ic2) 1) (by omega)) (va_cwS 3 hts gX7_capacity_X7_isOutside rfl rfl rfl (by decide +kernel) ⟨Nat.le_of_ble_eq_true rfl, Nat.le_of_ble_eq_true rfl⟩) ⟨fun _ _ _ _ h => h, fun _ _ _ => ⟨rfl, trivial⟩⟩ rfl rfl hl.1 rfl (lv_room (Nat.le_of_ble_eq_true rfl)) dX7_capacity_13 ⟨(show 0 + 1 + 0 ≤ 2 by omega), (show 0 + 6 + 0 ≤ 12 by omega)⟩) hS (fun _ _ h => h.elim) (fun _ h => h.elim) (fun rv13 u9 t9 H locs ht hvm hw hB hz hk hS1 => ?_)
    have hP := hP.kept (fun k x hk9 => hk x.1 ((hP k x hk9).lt) (fun h => h))
    have hk0 : ∀ x : Nat, x < s.heap.size → H[x]? = s.heap[x]? := fun x h9 => (hk x (Nat.lt_of_lt_of_le h9 hS.1) (fun h => h)).trans (hk0 x h9)
    have hS := hS1
    rcases hw with ⟨rfl, bd13⟩ | ⟨rfl, bd13⟩
    · skip
      refine z_if_eq (tgt := 30) hx hb dX7_capacity_16 (by decide) (by decide) (fun cd16 => absurd cd16 (by decide)) (fun _ => ?_)
      obtain ⟨sa9, hsa9⟩ := hstr (311, "radius is 10 to reach") (by decide)
      exact vx_throwSW (names := ["java/lang/RuntimeException", "java/lang/Exception"]) (sa := sa9) hx hb hlT hown (by decide +kernel) (by decide +kernel) (hts (.classLink RX7 50 "java/lang/IllegalArgumentException") (by decide +kernel)) (hts (.initialized "java/lang/IllegalArgumentException") (by decide +kernel)) hsa9 (vx_hat (fun w h => hts w (vt54_X7_capacity w h)) vf54 hnest.2.2.1.bad) vg54 hU0 hN0 hS (by rw [hml]; exact hl.1) dX7_capacity_19 dX7_capacity_22 dX7_capacity_23 dX7_capacity_26 dX7_capacity_29 (fun x h => (hexc x h).elim) (Nat.le_of_ble_eq_true rfl) (Nat.le_of_ble_eq_true rfl) (show 0 + 1 + 0 + 1 ≤ 2 by omega) (show 0 + 6 + 0 + 6 ≤ 12 by omega) hlocks (fun t9 hvm9 hz9 hk9 => ⟨(), (by rw [show n0.toNat = ic2 by omega]; omega), okE_A, Nat.le_trans hS.1 hz9, fun x h9 _ => (hk9 x (Nat.lt_of_lt_of_le h9 hS.1)).trans (hk0 x h9)⟩) hS.2.2 (by omega) (by omega)
    · skip
      refine z_if_eq (tgt := 30) hx hb dX7_capacity_16 (by decide) (by decide) (fun _ => ?_) (fun cd16 => absurd cd16 (by decide))
      refine lv_aload_n hx hb dX7_capacity_30 rfl (lv_at hl 0 rfl) ?_
      refine lv_iload_n hx hb dX7_capacity_31 rfl (lv_at hl 3 rfl) ?_
      refine lv_aload_n hx hb dX7_capacity_32 rfl (lv_at hl 1 rfl) ?_
      refine va_get (D := D) (ci := 9) (v := .ref (a 1)) (C := RX7) (T := TX7) (N := 9) hx hb hts inX7 hown hK hP 0 wg_S rfl 0 (by decide) k10 (fun _ h9 => h9) rfl dX7_capacity_33 ?_
      refine va_get (D := D) (ci := 7) (v := .int (zI (σ 1 5))) (C := RX5) (T := TX5) (N := 7) hx hb hts inX5 hown hK hP 1 wg_W rfl 5 (by decide) k104 (fun _ h9 => h9) rfl dX7_capacity_36 ?_
      refine va_calli (va_runV (As := [.int (zI (d)), .int (zI (σ 1 5))]) (rest := []) ⟨hx, hb, hml, hown, hts⟩ (c_X0_capacityAt l D cy a q σ H.size ic2 (by first | assumption | omega) (d) (by omega) (σ 1 5) (by omega) (by first | assumption | omega) (by first | assumption | omega) (by omega) (by omega)) (cwV 2 hts gX7_capacity_X0_capacityAt rfl rfl rfl (by decide +kernel) ⟨Nat.le_of_ble_eq_true rfl, Nat.le_of_ble_eq_true rfl⟩) ⟨Wd_blind, va_recv hK hP (ci := 2) (q0 := (3 + ic2)) rfl (wg_C (i := ic2) (by first | assumption | omega)), fun U hU hW => ⟨rfl, by rw [hU], Wd_mk (wP_left hP) hE0 hS hU hW⟩⟩ rfl rfl hl.1 rfl (lv_room (Nat.le_of_ble_eq_true rfl)) dX7_capacity_39 ⟨(show 0 + 1 + 0 + 0 ≤ 2 by omega), (show 0 + 6 + 0 + 0 ≤ 12 by omega)⟩) hS (fun _ _ h => h.elim) (fun _ h => wF_mono hS.1 _ h) (fun rv39 u9 t9 H locs ht hvm hw hB hz hk hS1 => ?_)
      have hP := hP.kept (fun k x hk9 => hk x.1 ((hP k x hk9).lt) (fun h => h))
      have hk0 : ∀ x : Nat, x < s.heap.size → H[x]? = s.heap[x]? := fun x h9 => (hk x (Nat.lt_of_lt_of_le h9 hS.1) (fun h => h)).trans (hk0 x h9)
      have hS := hS1
      obtain rfl := hw
      refine vx_ret ?_
      refine W.widen (k := 2) (n := 12) (by omega) (by omega) ?_
      exact W.iret (v := zI (cpF (σ (3 + ic2)) d (σ 1 5))) hx hb hr (fun t9 ht hW => ⟨⟨_, (), rfl, (by rw [show n0.toNat = ic2 by omega]), trivial⟩, vF_R ht hS.1 hk0⟩) hS.2.2 dX7_capacity_42

set_option maxRecDepth 100000 in
theorem vt54_X7_bearable : ∀ w ∈ (vx_atS RX7 54 "java/lang/IllegalArgumentException" ["java/lang/RuntimeException", "java/lang/Exception"]).filter goodWord, w ∈ wsX7_bearable := by decide +kernel
set_option maxHeartbeats 4000000 in
set_option maxRecDepth 100000 in
/-- X7_bearable -/
theorem c_X7_bearable (l : Launch) (hlT : l.stackTraces = false) (D : va_G) (cy : Nat → ClassId) (a q : Nat → Nat) (σ : Nat → Nat → Int) (sz : Nat) (n0 : Int) (hn0 : rg n0) (d : Int) (hd : rg d) (t0 : Int) (wi : Int) (hO : okA t0 wi q σ) : vx_Met l yX7_bearable wsX7_bearable ({ frames := 10, cells := 2, slots := 12, locals := 400 }) (va_Pc [.ref (a 0), .int (zI (n0)), .int (zI (d))] (fun U => U.heap.size = sz ∧ Wd D cy a q σ U)) (va_Qi (fun (r : Int32) (_ : Unit) => r = zI (beR (σ (3 + n0.toNat)) d 13)) (fun _ _ => True) (fun _ => False)) (vx_X (fun (_ : Unit) => n0 < 0 ∨ σ 0 5 ≤ n0 ∨ d < 10 ∨ σ (3 + n0.toNat) 1 < d) (fun E _ _ => okE E) (fun _ => False)) 2 12 (wF a sz) := by
  refine vx_ofW (cc := cX7_bearable) (maxL := 5) (ret := (some .int)) (by decide) rfl ?_
  intro p e s m args below meth c s₁ B hml hexc hpc0
  obtain ⟨rfl, hsz, hW0⟩ := hpc0
  have hx := B.exec
  have hb := B.bytes
  have hr := B.returns
  have hts := atoms_spec (ws := wsX7_bearable) B.pre
  have hown : s.vm.findClass RX7 = some m.cls := findClass_of_methodNamed B.named
  have hlocks := B.notSynchronized
  subst hsz
  obtain ⟨hP00, hE0⟩ := id hW0
  obtain ⟨hK, hinj, hU0, hN0, hstr, hnest⟩ := id hE0
  have hP : va_P D vwCl (wld cy a q σ ++ []) s.heap := by rw [List.append_nil]; exact hP00
  have hD : va_D (wF a s.heap.size) (wld cy a q σ ++ []) := wD_of hinj
  have hA : ∀ x : Nat, s.heap.size ≤ x → wF a s.heap.size x := fun _ h => Or.inr h
  have hS : va_S (wF a s.heap.size) s.heap s.heap [] := va_S.rf
  have hk0 : ∀ x : Nat, x < s.heap.size → s.heap[x]? = s.heap[x]? := fun _ _ => rfl
  have hl := lv_entry ([.ref (a 0), .int (zI (n0)), .int (zI (d))]) (n := 5) (Nat.le_of_ble_eq_true rfl)
  rw [lg_entry_eq]
  generalize (lg_sl ([.ref (a 0), .int (zI (n0)), .int (zI (d))]) ++ List.replicate (5 - (lg_sl ([.ref (a 0), .int (zI (n0)), .int (zI (d))])).length) Slot.unset).toArray = ls at hl ⊢
  have hl : lv_has ls 5 [(0, .ref (a 0)), (1, .int (zI (n0))), (2, .int (zI (d)))] := hl
  have k66 := hts (.fieldLink RX7 66 "Slewfree$Crane" "reach" "I") (by decide +kernel)
  have inX0 : ∀ w ∈ u_ws RX0 TX0 12, w ∈ wsX7_bearable := by decide +kernel
  obtain ⟨oS, oW, oC, oZ, oM, oL, oP, oQ, oH⟩ := id hO
  unfold okS at oS; unfold okW at oW; unfold okL at oL
  refine lv_aload_n hx hb dX7_bearable_0 rfl (lv_at hl 0 rfl) ?_
  refine lv_iload_n hx hb dX7_bearable_1 rfl (lv_at hl 1 rfl) ?_
  refine vx_callr (vx_runV (As := [.int (zI (n0))]) (rest := []) ⟨hx, hb, hml, hown, hts⟩ (c_X7_craneAt l hlT D cy a q σ s.heap.size (n0) (by omega) (by first | assumption | omega)) (cwV 1 hts gX7_bearable_X7_craneAt rfl rfl rfl (by decide +kernel) ⟨Nat.le_of_ble_eq_true rfl, Nat.le_of_ble_eq_true rfl⟩) ⟨Wd_blind, va_recv hK hP (ci := 9) (q0 := 0) rfl wg_S, fun U hU hW => ⟨rfl, by rw [hU], Wd_mk (wP_left hP) hE0 hS hU hW⟩⟩ rfl rfl hl.1 rfl (lv_room (Nat.le_of_ble_eq_true rfl)) dX7_bearable_2 ⟨(show 0 + 1 ≤ 2 by omega), (show 0 + 6 ≤ 12 by omega)⟩) hS (fun _ _ h => h.elim) (fun _ h => wF_mono hS.1 _ h) (fun _ _ h => h.elim) (fun E9 ce9 q9 u9 t9 H locs ht hvm hpx hE hz hk hS1 hce hcv hcl => ?_) (fun u9 ra9 t9 H locs ht hvm hw hB hz hk hS1 => ?_)
  · skip
    refine vx_widen (k := 2) (n := 12) (by omega) (by omega) ?_
    exact vx_out (fun x h => (hexc x h).elim) hlocks hce hcv hcl (fun t9 ht9 hvm9 => ⟨(), (by omega), hE, vF_R ht9 (Nat.le_trans hS.1 hz) (fun x h9 => (hk x (Nat.lt_of_lt_of_le h9 hS.1) (fun h => h)).trans (hk0 x h9))⟩) hS1.2.2 (Nat.le_refl _) (Nat.le_refl _)
  · skip
    have hP := hP.kept (fun k x hk9 => hk x.1 ((hP k x hk9).lt) (fun h => h))
    have hk0 : ∀ x : Nat, x < s.heap.size → H[x]? = s.heap[x]? := fun x h9 => (hk x (Nat.lt_of_lt_of_le h9 hS.1) (fun h => h)).trans (hk0 x h9)
    have hS := hS1
    subst hB
    obtain ⟨ic2, eic2⟩ : ∃ z : Nat, z = u9 := ⟨u9, rfl⟩
    rw [← eic2] at hw ⊢
    have hi2 := hw
    have oC_a := oC ic2 (by omega); unfold okC at oC_a
    refine lv_astore_n (lv' := [(3, .ref (a (3 + ic2))), (0, .ref (a 0)), (1, .int (zI (n0))), (2, .int (zI (d)))]) hx hb dX7_bearable_5 rfl hl (by decide) rfl (fun ls hl => ?_)
    refine lv_iload_n hx hb dX7_bearable_6 rfl (lv_at hl 3 rfl) ?_
    refine lv_bipush (v := zI 10) hx hb dX7_bearable_7 (by decide +kernel) ?_
    refine lv_aload_n hx hb dX7_bearable_9 rfl (lv_at hl 0 rfl) ?_
    refine va_get (D := D) (ci := 2) (v := .int (zI (σ (3 + ic2) 1))) (C := RX0) (T := TX0) (N := 12) hx hb hts inX0 hown hK hP (3 + ic2) (wg_C (i := ic2) (by first | assumption | omega)) rfl 1 (by decide) k66 (fun _ h9 => h9) rfl dX7_bearable_10 ?_
    refine va_calli (va_runS (As := [.int (zI (d)), .int (zI (10)), .int (zI (σ (3 + ic2) 1))]) (rest := []) ⟨hx, hb, hml, hown, hts⟩ (c_X7_isOutside l (d) (by omega) (10) (by omega) (σ (3 + ic2) 1) (by omega)) (va_cwS 3 hts gX7_bearable_X7_isOutside rfl rfl rfl (by decide +kernel) ⟨Nat.le_of_ble_eq_true rfl, Nat.le_of_ble_eq_true rfl⟩) ⟨fun _ _ _ _ h => h, fun _ _ _ => ⟨rfl, trivial⟩⟩ rfl rfl hl.1 rfl (lv_room (Nat.le_of_ble_eq_true rfl)) dX7_bearable_13 ⟨(show 0 + 1 + 0 ≤ 2 by omega), (show 0 + 6 + 0 ≤ 12 by omega)⟩) hS (fun _ _ h => h.elim) (fun _ h => h.elim) (fun rv13 u9 t9 H locs ht hvm hw hB hz hk hS1 => ?_)
    have hP := hP.kept (fun k x hk9 => hk x.1 ((hP k x hk9).lt) (fun h => h))
    have hk0 : ∀ x : Nat, x < s.heap.size → H[x]? = s.heap[x]? := fun x h9 => (hk x (Nat.lt_of_lt_of_le h9 hS.1) (fun h => h)).trans (hk0 x h9)
    have hS := hS1
    rcases hw with ⟨rfl, bd13⟩ | ⟨rfl, bd13⟩
    · skip
      refine z_if_eq (tgt := 30) hx hb dX7_bearable_16 (by decide) (by decide) (fun cd16 => absurd cd16 (by decide)) (fun _ => ?_)
      obtain ⟨sa9, hsa9⟩ := hstr (311, "radius is 10 to reach") (by decide)
      exact vx_throwSW (names := ["java/lang/RuntimeException", "java/lang/Exception"]) (sa := sa9) hx hb hlT hown (by decide +kernel) (by decide +kernel) (hts (.classLink RX7 50 "java/lang/IllegalArgumentException") (by decide +kernel)) (hts (.initialized "java/lang/IllegalArgumentException") (by decide +kernel)) hsa9 (vx_hat (fun w h => hts w (vt54_X7_bearable w h)) vf54 hnest.2.2.1.bad) vg54 hU0 hN0 hS (by rw [hml]; exact hl.1) dX7_bearable_19 dX7_bearable_22 dX7_bearable_23 dX7_bearable_26 dX7_bearable_29 (fun x h => (hexc x h).elim) (Nat.le_of_ble_eq_true rfl) (Nat.le_of_ble_eq_true rfl) (show 0 + 1 + 0 + 1 ≤ 2 by omega) (show 0 + 6 + 0 + 6 ≤ 12 by omega) hlocks (fun t9 hvm9 hz9 hk9 => ⟨(), (by rw [show n0.toNat = ic2 by omega]; omega), okE_A, Nat.le_trans hS.1 hz9, fun x h9 _ => (hk9 x (Nat.lt_of_lt_of_le h9 hS.1)).trans (hk0 x h9)⟩) hS.2.2 (by omega) (by omega)
    · skip
      refine z_if_eq (tgt := 30) hx hb dX7_bearable_16 (by decide) (by decide) (fun _ => ?_) (fun cd16 => absurd cd16 (by decide))
      refine lv_bipush (v := zI 12) hx hb dX7_bearable_30 (by decide +kernel) ?_
      refine lv_istore (lv' := [(4, .int (zI (12))), (3, .ref (a (3 + ic2))), (0, .ref (a 0)), (1, .int (zI (n0))), (2, .int (zI (d)))]) hx hb dX7_bearable_32 hl (by decide) rfl (fun ls hl => ?_)
      have loop34 : ∀ (n : Nat) (w9 : Int) (H : Heap) (locs : List Loc) (ls : Array Slot), (w9 + 1).toNat < n → (-1 ≤ w9 ∧ w9 ≤ 12) → (beR (σ (3 + ic2)) d (w9 + 1).toNat = beR (σ (3 + ic2)) d 13) → va_P D vwCl (wld cy a q σ ++ []) H → va_S (wF a s.heap.size) s.heap H locs → (∀ x : Nat, x < s.heap.size → H[x]? = s.heap[x]?) → lv_has ls 5 [(0, .ref (a 0)), (1, .int (zI (n0))), (2, .int (zI (d))), (3, .ref (a (3 + ic2))), (4, .int (zI (w9)))] → W p l e (headSpec wsX7_bearable ({ frames := 10, cells := 2, slots := 12, locals := 400 })).room s m ([.ref (a 0), .int (zI (n0)), .int (zI (d))] : List Value).toArray below meth c H locs (0 + 1 + 0) (0 + 6 + 0) (vx_MQ below (va_Qi (fun (r : Int32) (_ : Unit) => r = zI (beR (σ (3 + n0.toNat)) d 13)) (fun _ _ => True) (fun _ => False)) (vx_X (fun (_ : Unit) => n0 < 0 ∨ σ 0 5 ≤ n0 ∨ d < 10 ∨ σ (3 + n0.toNat) 1 < d) (fun E _ _ => okE E) (fun _ => False)) ([.ref (a 0), .int (zI (n0)), .int (zI (d))] : List Value).toArray s 2 12 (wF a s.heap.size)) (F0 m 34 ls []) := by
        intro n
        induction n with
        | zero => intro w9 H locs ls h0; exact absurd h0 (Nat.not_lt_zero _)
        | succ n ih34 =>
          intro w9 H locs ls hms hw1 hw2 hP hS hk0 hl
          refine lv_iload hx hb dX7_bearable_34 (lv_at hl 4 rfl) ?_
          refine z_if_lt (tgt := 59) hx hb dX7_bearable_36 (by decide) (by omega) (fun cd36 => ?_) (fun cd36 => ?_)
          · skip
            refine lv_iconst (v := zI (-1)) hx hb dX7_bearable_59 rfl ?_
            refine vx_ret ?_
            refine W.widen (k := 2) (n := 12) (by omega) (by omega) ?_
            exact W.iret (v := zI (-1)) hx hb hr (fun t9 ht hW => ⟨⟨_, (), rfl, (by rw [show n0.toNat = ic2 by omega, ← hw2, show (w9 + 1).toNat = 0 by omega]; rfl), trivial⟩, vF_R ht hS.1 hk0⟩) hS.2.2 dX7_bearable_60
          · skip
            obtain ⟨g, hg⟩ : ∃ g : Nat, w9 = (g : Int) := ⟨w9.toNat, by omega⟩
            have cb9 := cpF_b oC_a.2.2.2.2.1 d w9 (by omega) (by omega)
            refine lv_aload_n hx hb dX7_bearable_39 rfl (lv_at hl 3 rfl) ?_
            refine lv_iload_n hx hb dX7_bearable_40 rfl (lv_at hl 2 rfl) ?_
            refine lv_iload hx hb dX7_bearable_41 (lv_at hl 4 rfl) ?_
            refine va_calli (va_runV (As := [.int (zI (d)), .int (zI (w9))]) (rest := []) ⟨hx, hb, hml, hown, hts⟩ (c_X0_capacityAt l D cy a q σ H.size ic2 (by first | assumption | omega) (d) (by omega) (w9) (by omega) (by first | assumption | omega) (by first | assumption | omega) (by omega) (by omega)) (cwV 2 hts gX7_bearable_X0_capacityAt rfl rfl rfl (by decide +kernel) ⟨Nat.le_of_ble_eq_true rfl, Nat.le_of_ble_eq_true rfl⟩) ⟨Wd_blind, va_recv hK hP (ci := 2) (q0 := (3 + ic2)) rfl (wg_C (i := ic2) (by first | assumption | omega)), fun U hU hW => ⟨rfl, by rw [hU], Wd_mk (wP_left hP) hE0 hS hU hW⟩⟩ rfl rfl hl.1 rfl (lv_room (Nat.le_of_ble_eq_true rfl)) dX7_bearable_43 ⟨(show 0 + 1 + 0 + 0 ≤ 2 by omega), (show 0 + 6 + 0 + 0 ≤ 12 by omega)⟩) hS (fun _ _ h => h.elim) (fun _ h => wF_mono hS.1 _ h) (fun rv43 u9 t9 H locs ht hvm hw hB hz hk hS1 => ?_)
            have hP := hP.kept (fun k x hk9 => hk x.1 ((hP k x hk9).lt) (fun h => h))
            have hk0 : ∀ x : Nat, x < s.heap.size → H[x]? = s.heap[x]? := fun x h9 => (hk x (Nat.lt_of_lt_of_le h9 hS.1) (fun h => h)).trans (hk0 x h9)
            have hS := hS1
            obtain rfl := hw
            refine lv_iconst (v := zI 1) hx hb dX7_bearable_46 rfl ?_
            refine z_icmp_lt (tgt := 53) hx hb dX7_bearable_47 (by decide) (by omega) (by omega) (fun cd47 => ?_) (fun cd47 => ?_)
            · skip
              refine lv_iinc (v := zI (w9 + (-1))) (lv' := [(4, .int (zI (w9 + (-1)))), (0, .ref (a 0)), (1, .int (zI (n0))), (2, .int (zI (d))), (3, .ref (a (3 + ic2)))]) hx hb dX7_bearable_53 hl (k := 4) rfl (zI_add _ _) (by decide) rfl (fun ls hl => ?_)
              refine lv_goto (tgt := 34) hx hb dX7_bearable_56 (by decide) ?_
              exact ih34 (w9 + (-1)) H locs ls (by omega) (by omega) (by rw [← hw2, show (w9 + 1).toNat = g + 1 by omega, show (w9 + (-1) + 1).toNat = g by omega]; exact (beR_go (by rw [← hg]; omega)).symm)  hP hS hk0 (by have h9 := lv_sub hl [1, 2, 3, 4, 0] rfl; exact h9)
            · skip
              refine lv_iload hx hb dX7_bearable_50 (lv_at hl 4 rfl) ?_
              refine vx_ret ?_
              refine W.widen (k := 2) (n := 12) (by omega) (by omega) ?_
              exact W.iret (v := zI (w9)) hx hb hr (fun t9 ht hW => ⟨⟨_, (), rfl, (by rw [show n0.toNat = ic2 by omega, ← hw2, show (w9 + 1).toNat = g + 1 by omega, beR_at (by rw [← hg]; omega), hg]), trivial⟩, vF_R ht hS.1 hk0⟩) hS.2.2 dX7_bearable_52
      exact loop34 (14) 12 H locs ls (by omega) (by omega) rfl  hP hS hk0 (lv_sub hl [2, 3, 4, 1, 0] rfl)
