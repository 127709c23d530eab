set_option maxHeartbeats 4000000 in
set_option maxRecDepth 100000 in
/-- X1_write -/
theorem c_X1_write (l : Launch) (D : va_G) (cy : Nat → ClassId) (a q : Nat → Nat) (σ : Nat → Nat → Int) (sz : Nat) (kind : Int) (hkind : rg kind) (cr : Int) (hcr : rg cr) (wn : Int) (hwn : rg wn) (load : Int) (hload : rg load) (vd : Int) (hvd : rg vd) (le : Int) (hle : rg le) (hr9 : 0 ≤ kind ∧ kind ≤ 4 ∧ 0 ≤ cr ∧ cr ≤ 2 ∧ 0 ≤ wn ∧ wn ≤ 41 ∧ 0 ≤ load ∧ load ≤ 199 ∧ 0 ≤ vd ∧ vd ≤ 5 ∧ -1 ≤ le ∧ le ≤ 1000 ∧ (kind = 0 → vd = 0 → load ≤ le)) (t0 : Int) (wi : Int) (hO : okA t0 wi q σ) : Met l yX1_write wsX1_write ({ frames := 8, cells := 0, slots := 0, locals := 200 }) (va_Pc [.ref (a 20), .int (zI (kind)), .int (zI (cr)), .int (zI (wn)), .int (zI (load)), .int (zI (vd)), .int (zI (le))] (fun U => U.heap.size = sz ∧ Wd D cy a q σ U)) (va_Qv (fun (u : ((Nat → Nat) × (Nat → Nat → Int))) => u.1 = q ∧ okA t0 wi q u.2 ∧ WrP q σ u.2 kind cr load vd le) (fun (u : ((Nat → Nat) × (Nat → Nat → Int))) t => Wd D cy a u.1 u.2 t) (wF a sz)) 0 0 (wF a sz) := by
  refine Met.ofW (cc := cX1_write) (maxL := 8) (ret := none) (by decide) rfl ?_
  intro p e s m args below meth c s₁ B hml hpc0
  obtain ⟨rfl, hsz, hW0⟩ := hpc0
  have hx := B.exec
  have hb := B.bytes
  have hr := B.returns
  have hts := atoms_spec (ws := wsX1_write) B.pre
  have hown : s.vm.findClass RX1 = some m.cls := findClass_of_methodNamed B.named
  have hlocks := B.notSynchronized
  subst hsz
  obtain ⟨hP00, hE0⟩ := id hW0
  obtain ⟨hK, hinj, hU0, hN0, hstr, hnest⟩ := id hE0
  have hP : va_P D vwCl (wld cy a q σ ++ []) s.heap := by rw [List.append_nil]; exact hP00
  have hD : va_D (wF a s.heap.size) (wld cy a q σ ++ []) := wD_of hinj
  have hA : ∀ x : Nat, s.heap.size ≤ x → wF a s.heap.size x := fun _ h => Or.inr h
  have hS : va_S (wF a s.heap.size) s.heap s.heap [] := va_S.rf
  have hk0 : ∀ x : Nat, x < s.heap.size → s.heap[x]? = s.heap[x]? := fun _ _ => rfl
  have hl := lv_entry ([.ref (a 20), .int (zI (kind)), .int (zI (cr)), .int (zI (wn)), .int (zI (load)), .int (zI (vd)), .int (zI (le))]) (n := 8) (Nat.le_of_ble_eq_true rfl)
  rw [lg_entry_eq]
  generalize (lg_sl ([.ref (a 20), .int (zI (kind)), .int (zI (cr)), .int (zI (wn)), .int (zI (load)), .int (zI (vd)), .int (zI (le))]) ++ List.replicate (8 - (lg_sl ([.ref (a 20), .int (zI (kind)), .int (zI (cr)), .int (zI (wn)), .int (zI (load)), .int (zI (vd)), .int (zI (le))])).length) Slot.unset).toArray = ls at hl ⊢
  have hl : lv_has ls 8 [(0, .ref (a 20)), (1, .int (zI (kind))), (2, .int (zI (cr))), (3, .int (zI (wn))), (4, .int (zI (load))), (5, .int (zI (vd))), (6, .int (zI (le)))] := hl
  have k11 := hts (.fieldLink RX1 11 "Slewfree$Log" "lastSeal" "I") (by decide +kernel)
  have k17 := hts (.fieldLink RX1 17 "Slewfree$Log" "pages" "[LSlewfree$Page;") (by decide +kernel)
  have k22 := hts (.fieldLink RX1 22 "Slewfree$Log" "count" "I") (by decide +kernel)
  have k25 := hts (.fieldLink RX1 25 "Slewfree$Page" "kind" "I") (by decide +kernel)
  have k28 := hts (.fieldLink RX1 28 "Slewfree$Page" "crane" "I") (by decide +kernel)
  have k31 := hts (.fieldLink RX1 31 "Slewfree$Page" "wind" "I") (by decide +kernel)
  have k34 := hts (.fieldLink RX1 34 "Slewfree$Page" "load" "I") (by decide +kernel)
  have k37 := hts (.fieldLink RX1 37 "Slewfree$Page" "verdict" "I") (by decide +kernel)
  have k40 := hts (.fieldLink RX1 40 "Slewfree$Page" "leastCapacity" "I") (by decide +kernel)
  have k47 := hts (.fieldLink RX1 47 "Slewfree$Page" "seal" "I") (by decide +kernel)
  have k50 := hts (.fieldLink RX1 50 "Slewfree$Log" "written" "I") (by decide +kernel)
  have inX1 : ∀ w ∈ u_ws RX1 TX1 4, w ∈ wsX1_write := by decide +kernel
  have inX3 : ∀ w ∈ u_ws RX3 TX3 7, w ∈ wsX1_write := by decide +kernel
  obtain ⟨oS, oW, oC, oZ, oM, oL, oP, oQ, oH⟩ := id hO
  unfold okS at oS; unfold okW at oW; unfold okL at oL
  refine lv_aload_n hx hb dX1_write_0 rfl (lv_at hl 0 rfl) ?_
  refine va_get (D := D) (ci := 3) (v := .int (zI (σ 20 1))) (C := RX1) (T := TX1) (N := 4) hx hb hts inX1 hown hK hP 20 wg_L rfl 1 (by decide) k22 (fun _ h9 => h9) rfl dX1_write_1 ?_
  refine lv_bipush (v := zI 40) hx hb dX1_write_4 (by decide +kernel) ?_
  refine z_icmp_lt (tgt := 10) hx hb dX1_write_6 (by decide) (by omega) (by omega) (fun cd6 => ?_) (fun cd6 => ?_)
  · skip
    obtain ⟨n, hn⟩ : ∃ n : Nat, σ 20 1 = (n : Int) := ⟨(σ 20 1).toNat, by omega⟩
    have hqn := oQ.1 n (by omega)
    refine lv_aload_n hx hb dX1_write_10 rfl (lv_at hl 0 rfl) ?_
    refine va_get (D := D) (ci := 3) (v := .ref (a 21)) (C := RX1) (T := TX1) (N := 4) hx hb hts inX1 hown hK hP 20 wg_L rfl 0 (by decide) k17 (fun _ h9 => h9) rfl dX1_write_11 ?_
    refine lv_aload_n hx hb dX1_write_14 rfl (lv_at hl 0 rfl) ?_
    refine va_get (D := D) (ci := 3) (v := .int (zI (σ 20 1))) (C := RX1) (T := TX1) (N := 4) hx hb hts inX1 hown hK hP 20 wg_L rfl 1 (by decide) k22 (fun _ h9 => h9) rfl dX1_write_15 ?_
    refine z_aald (i := n) hx hb hK hP 21 3 wg_AP rfl (by omega) (by omega) (by omega) dX1_write_18 ?_
    refine lv_astore (lv' := [(7, .ref (a (22 + q n))), (0, .ref (a 20)), (1, .int (zI (kind))), (2, .int (zI (cr))), (3, .int (zI (wn))), (4, .int (zI (load))), (5, .int (zI (vd))), (6, .int (zI (le)))]) hx hb dX1_write_19 hl (by decide) rfl (fun ls hl => ?_)
    refine lv_aload hx hb dX1_write_21 (lv_at hl 0 rfl) ?_
    refine lv_iload_n hx hb dX1_write_23 rfl (lv_at hl 2 rfl) ?_
    refine w_put (ty := .int) (z := kind) (C := RX3) (T := TX3) (N := 7) hx hb hts inX3 tyX3 tyX3_ok nmX3 hown hK hP hD hS (22 + q n) (by omega) (ci := 5) (fs := fP) (fun _ => wc_P) rfl 0 (by decide) k25 (fun _ h9 => h9) rfl (by decide +kernel) rfl rfl (Nat.le_of_ble_eq_true rfl) rfl dX1_write_24 (fun H locs hP hD hS => ?_)
    obtain ⟨σp24, eσp24⟩ : ∃ z, z = up2 σ (22 + q n) 0 (kind) := ⟨_, rfl⟩
    rw [← eσp24] at hP hD
    refine lv_aload hx hb dX1_write_27 (lv_at hl 0 rfl) ?_
    refine lv_iload_n hx hb dX1_write_29 rfl (lv_at hl 3 rfl) ?_
    refine w_put (ty := .int) (z := cr) (C := RX3) (T := TX3) (N := 7) hx hb hts inX3 tyX3 tyX3_ok nmX3 hown hK hP hD hS (22 + q n) (by omega) (ci := 5) (fs := fP) (fun _ => wc_P) rfl 1 (by decide) k28 (fun _ h9 => h9) rfl (by decide +kernel) rfl rfl (Nat.le_of_ble_eq_true rfl) rfl dX1_write_30 (fun H locs hP hD hS => ?_)
    obtain ⟨σp30, eσp30⟩ : ∃ z, z = up2 σp24 (22 + q n) 1 (cr) := ⟨_, rfl⟩
    rw [← eσp30] at hP hD
    refine lv_aload hx hb dX1_write_33 (lv_at hl 0 rfl) ?_
    refine lv_iload_n hx hb dX1_write_35 rfl (lv_at hl 4 rfl) ?_
    refine w_put (ty := .int) (z := wn) (C := RX3) (T := TX3) (N := 7) hx hb hts inX3 tyX3 tyX3_ok nmX3 hown hK hP hD hS (22 + q n) (by omega) (ci := 5) (fs := fP) (fun _ => wc_P) rfl 2 (by decide) k31 (fun _ h9 => h9) rfl (by decide +kernel) rfl rfl (Nat.le_of_ble_eq_true rfl) rfl dX1_write_36 (fun H locs hP hD hS => ?_)
    obtain ⟨σp36, eσp36⟩ : ∃ z, z = up2 σp30 (22 + q n) 2 (wn) := ⟨_, rfl⟩
    rw [← eσp36] at hP hD
    refine lv_aload hx hb dX1_write_39 (lv_at hl 0 rfl) ?_
    refine lv_iload hx hb dX1_write_41 (lv_at hl 5 rfl) ?_
    refine w_put (ty := .int) (z := load) (C := RX3) (T := TX3) (N := 7) hx hb hts inX3 tyX3 tyX3_ok nmX3 hown hK hP hD hS (22 + q n) (by omega) (ci := 5) (fs := fP) (fun _ => wc_P) rfl 3 (by decide) k34 (fun _ h9 => h9) rfl (by decide +kernel) rfl rfl (Nat.le_of_ble_eq_true rfl) rfl dX1_write_43 (fun H locs hP hD hS => ?_)
    obtain ⟨σp43, eσp43⟩ : ∃ z, z = up2 σp36 (22 + q n) 3 (load) := ⟨_, rfl⟩
    rw [← eσp43] at hP hD
    refine lv_aload hx hb dX1_write_46 (lv_at hl 0 rfl) ?_
    refine lv_iload hx hb dX1_write_48 (lv_at hl 6 rfl) ?_
    refine w_put (ty := .int) (z := vd) (C := RX3) (T := TX3) (N := 7) hx hb hts inX3 tyX3 tyX3_ok nmX3 hown hK hP hD hS (22 + q n) (by omega) (ci := 5) (fs := fP) (fun _ => wc_P) rfl 4 (by decide) k37 (fun _ h9 => h9) rfl (by decide +kernel) rfl rfl (Nat.le_of_ble_eq_true rfl) rfl dX1_write_50 (fun H locs hP hD hS => ?_)
    obtain ⟨σp50, eσp50⟩ : ∃ z, z = up2 σp43 (22 + q n) 4 (vd) := ⟨_, rfl⟩
    rw [← eσp50] at hP hD
    refine lv_aload hx hb dX1_write_53 (lv_at hl 0 rfl) ?_
    refine lv_iload hx hb dX1_write_55 (lv_at hl 7 rfl) ?_
    refine w_put (ty := .int) (z := le) (C := RX3) (T := TX3) (N := 7) hx hb hts inX3 tyX3 tyX3_ok nmX3 hown hK hP hD hS (22 + q n) (by omega) (ci := 5) (fs := fP) (fun _ => wc_P) rfl 6 (by decide) k40 (fun _ h9 => h9) rfl (by decide +kernel) rfl rfl (Nat.le_of_ble_eq_true rfl) rfl dX1_write_57 (fun H locs hP hD hS => ?_)
    obtain ⟨σp57, eσp57⟩ : ∃ z, z = up2 σp50 (22 + q n) 6 (le) := ⟨_, rfl⟩
    rw [← eσp57] at hP hD
    refine lv_aload hx hb dX1_write_60 (lv_at hl 0 rfl) ?_
    have fp0 : σp57 (22 + q n) 0 = kind := by rw [eσp57, g_fe (by decide), eσp50, g_fe (by decide), eσp43, g_fe (by decide), eσp36, g_fe (by decide), eσp30, g_fe (by decide), eσp24, g_eq]
    have fp1 : σp57 (22 + q n) 1 = cr := by rw [eσp57, g_fe (by decide), eσp50, g_fe (by decide), eσp43, g_fe (by decide), eσp36, g_fe (by decide), eσp30, g_eq]
    have fp2 : σp57 (22 + q n) 2 = wn := by rw [eσp57, g_fe (by decide), eσp50, g_fe (by decide), eσp43, g_fe (by decide), eσp36, g_eq]
    have fp3 : σp57 (22 + q n) 3 = load := by rw [eσp57, g_fe (by decide), eσp50, g_fe (by decide), eσp43, g_eq]
    have fp4 : σp57 (22 + q n) 4 = vd := by rw [eσp57, g_fe (by decide), eσp50, g_eq]
    refine lv_aload hx hb dX1_write_62 (lv_at hl 0 rfl) ?_
    refine lv_aload_n hx hb dX1_write_64 rfl (lv_at hl 1 rfl) ?_
    refine va_get (D := D) (ci := 3) (v := .int (zI (σ 20 3))) (C := RX1) (T := TX1) (N := 4) hx hb hts inX1 hown hK hP 20 wg_L rfl 3 (by decide) k11 (fun _ h9 => h9) (by show some (Value.int (zI (σp57 20 3))) = some (Value.int (zI (σ 20 3))); rw [eσp57, g_ne (by omega), eσp50, g_ne (by omega), eσp43, g_ne (by omega), eσp36, g_ne (by omega), eσp30, g_ne (by omega), eσp24, g_ne (by omega)]) dX1_write_65 ?_
    refine va_calli (va_runV (As := [.int (zI (σ 20 3))]) (rest := [.ref (a (22 + q n))]) ⟨hx, hb, hml, hown, hts⟩ (c_X3_sealBehind l D cy a q σp57 H.size (q n) (by omega) (σ 20 3) (by omega) (by rw [fp0, fp1, fp2, fp3, fp4]; omega) (by omega)) (cwV 1 hts gX1_write_X3_sealBehind rfl rfl rfl (by decide +kernel) ⟨Nat.le_of_ble_eq_true rfl, Nat.le_of_ble_eq_true rfl⟩) ⟨Wd_blind, va_recv hK hP (ci := 5) (q0 := (22 + q n)) rfl (wg_P (i := q n) (by first | assumption | omega)), fun U hU hW => ⟨rfl, by rw [hU], Wd_mk (wP_left hP) hE0 hS hU hW⟩⟩ rfl rfl hl.1 rfl (lv_room (Nat.le_of_ble_eq_true rfl)) dX1_write_68 ⟨(show 0 + 0 ≤ 0 by omega), (show 0 + 0 ≤ 0 by omega)⟩) hS (fun _ _ h => h.elim) (fun _ h => wF_mono hS.1 _ h) (fun rv68 u9 t9 H locs ht hvm hw hB hz hk hS1 => ?_)
    have hP := hP.kept (fun k x hk9 => hk x.1 ((hP k x hk9).lt) (fun h => h))
    have hS := hS1
    obtain rfl := hw
    refine z_name (fun sv esv => ?_)
    refine w_put (ty := .int) (z := sv) (C := RX3) (T := TX3) (N := 7) hx hb hts inX3 tyX3 tyX3_ok nmX3 hown hK hP hD hS (22 + q n) (by omega) (ci := 5) (fs := fP) (fun _ => wc_P) rfl 5 (by decide) k47 (fun _ h9 => h9) rfl (by decide +kernel) rfl rfl (Nat.le_of_ble_eq_true rfl) rfl dX1_write_71 (fun H locs hP hD hS => ?_)
    obtain ⟨σp71, eσp71⟩ : ∃ z, z = up2 σp57 (22 + q n) 5 (sv) := ⟨_, rfl⟩
    rw [← eσp71] at hP hD
    refine lv_aload_n hx hb dX1_write_74 rfl (lv_at hl 1 rfl) ?_
    refine lv_aload hx hb dX1_write_75 (lv_at hl 0 rfl) ?_
    refine va_get (D := D) (ci := 5) (v := .int (zI (sv))) (C := RX3) (T := TX3) (N := 7) hx hb hts inX3 hown hK hP (22 + q n) (wg_P (i := q n) (by first | assumption | omega)) rfl 5 (by decide) k47 (fun _ h9 => h9) (by show some (Value.int (zI (σp71 (22 + q n) 5))) = some (Value.int (zI (sv))); rw [eσp71, g_eq]) dX1_write_77 ?_
    refine w_put (ty := .int) (z := sv) (C := RX1) (T := TX1) (N := 4) hx hb hts inX1 tyX1 tyX1_ok nmX1 hown hK hP hD hS 20 (by omega) (ci := 3) (fs := fL a) (fun _ => wc_L) rfl 3 (by decide) k11 (fun _ h9 => h9) rfl (by decide +kernel) rfl rfl (Nat.le_of_ble_eq_true rfl) rfl dX1_write_80 (fun H locs hP hD hS => ?_)
    obtain ⟨σp80, eσp80⟩ : ∃ z, z = up2 σp71 20 3 (sv) := ⟨_, rfl⟩
    rw [← eσp80] at hP hD
    refine lv_aload_n hx hb dX1_write_83 rfl (lv_at hl 1 rfl) ?_
    refine lv_dup hx hb dX1_write_84 rfl ?_
    refine va_get (D := D) (ci := 3) (v := .int (zI (σ 20 1))) (C := RX1) (T := TX1) (N := 4) hx hb hts inX1 hown hK hP 20 wg_L rfl 1 (by decide) k22 (fun _ h9 => h9) (by show some (Value.int (zI (σp80 20 1))) = some (Value.int (zI (σ 20 1))); rw [eσp80, g_fe (by decide), eσp71, g_ne (by omega), eσp57, g_ne (by omega), eσp50, g_ne (by omega), eσp43, g_ne (by omega), eσp36, g_ne (by omega), eσp30, g_ne (by omega), eσp24, g_ne (by omega)]) dX1_write_85 ?_
    refine lv_iconst (v := zI 1) hx hb dX1_write_88 rfl ?_
    refine z_iadd hx hb dX1_write_89 ?_
    refine w_put (ty := .int) (z := (σ 20 1) + 1) (C := RX1) (T := TX1) (N := 4) hx hb hts inX1 tyX1 tyX1_ok nmX1 hown hK hP hD hS 20 (by omega) (ci := 3) (fs := fL a) (fun _ => wc_L) rfl 1 (by decide) k22 (fun _ h9 => h9) rfl (by decide +kernel) rfl rfl (Nat.le_of_ble_eq_true rfl) rfl dX1_write_90 (fun H locs hP hD hS => ?_)
    obtain ⟨σp90, eσp90⟩ : ∃ z, z = up2 σp80 20 1 ((σ 20 1) + 1) := ⟨_, rfl⟩
    rw [← eσp90] at hP hD
    refine lv_aload_n hx hb dX1_write_93 rfl (lv_at hl 1 rfl) ?_
    refine lv_dup hx hb dX1_write_94 rfl ?_
    refine va_get (D := D) (ci := 3) (v := .int (zI (σ 20 2))) (C := RX1) (T := TX1) (N := 4) hx hb hts inX1 hown hK hP 20 wg_L rfl 2 (by decide) k50 (fun _ h9 => h9) (by show some (Value.int (zI (σp90 20 2))) = some (Value.int (zI (σ 20 2))); rw [eσp90, g_fe (by decide), eσp80, g_fe (by decide), eσp71, g_ne (by omega), eσp57, g_ne (by omega), eσp50, g_ne (by omega), eσp43, g_ne (by omega), eσp36, g_ne (by omega), eσp30, g_ne (by omega), eσp24, g_ne (by omega)]) dX1_write_95 ?_
    refine lv_iconst (v := zI 1) hx hb dX1_write_98 rfl ?_
    refine z_iadd hx hb dX1_write_99 ?_
    refine w_put (ty := .int) (z := (σ 20 2) + 1) (C := RX1) (T := TX1) (N := 4) hx hb hts inX1 tyX1 tyX1_ok nmX1 hown hK hP hD hS 20 (by omega) (ci := 3) (fs := fL a) (fun _ => wc_L) rfl 2 (by decide) k50 (fun _ h9 => h9) rfl (by decide +kernel) rfl rfl (Nat.le_of_ble_eq_true rfl) rfl dX1_write_100 (fun H locs hP hD hS => ?_)
    obtain ⟨σp100, eσp100⟩ : ∃ z, z = up2 σp90 20 2 ((σ 20 2) + 1) := ⟨_, rfl⟩
    rw [← eσp100] at hP hD
    refine W.widen (k := 0) (n := 0) (by omega) (by omega) ?_
    have eA : σp57 = upR σ (22 + q n) (upr (upr (upr (upr (upr (upr (σ (22 + q n)) 0 kind) 1 cr) 2 wn) 3 load) 4 vd) 6 le) := by
      rw [eσp57, eσp50, eσp43, eσp36, eσp30, eσp24]
      simp only [up2, upR_s, upR_R]
    have eR : σp100 = upR (upR σ (22 + q n) (upr (upr (upr (upr (upr (upr (upr (σ (22 + q n)) 0 kind) 1 cr) 2 wn) 3 load) 4 vd) 6 le) 5 sv)) 20 (upr (upr (upr (σ 20) 3 sv) 1 (σ 20 1 + 1)) 2 (σ 20 2 + 1)) := by
      rw [eσp100, eσp90, eσp80, eσp71, eA]
      simp only [up2, upR_s, upR_R, upR_n (show (20 : Nat) ≠ 22 + q n by omega)]
    have hsv := sealB_b (σp57 (22 + q n)) (σ 20 3)
    rw [← esv] at hsv
    rw [eA, upR_s] at esv
    have hO1 : okA t0 wi q σp100 := by
      rw [eR]
      refine okA_write hO hn.symm (by omega) ?_ ?_ rfl rfl rfl
      · show 0 ≤ kind ∧ kind ≤ 4 ∧ 0 ≤ cr ∧ cr ≤ 2 ∧ 0 ≤ wn ∧ wn ≤ 41 ∧ 0 ≤ load ∧ load ≤ 199 ∧ 0 ≤ vd ∧ vd ≤ 5 ∧ 0 ≤ sv ∧ sv ≤ 9972 ∧ -1 ≤ le ∧ le ≤ 1000 ∧ (kind = 0 → vd = 0 → load ≤ le)
        omega
      · exact esv
    have hnn : (σ 20 1).toNat = n := by omega
    have hWr : WrP q σ σp100 kind cr load vd le := by
      refine ⟨fun k hk => by rw [eR, upR_n (by omega), upR_n (by omega)], Or.inl ⟨by omega, by rw [eR, upR_s]; rfl, by rw [eR, upR_s]; rfl, ?_, ?_, ?_, ?_, ?_⟩⟩ <;> (rw [hnn, eR, upR_n (by omega), upR_s]; rfl)
    exact W.vret hx hb hr (fun t9 ht hW => ⟨⟨(q, σp100), rfl, ⟨rfl, hO1, hWr⟩, Wd_mk (wP_left hP) hE0 hS ht hW⟩, hS.F ht⟩) hS.2.2 dX1_write_103
  · skip
    exact W.vret hx hb hr (fun t9 ht hW => ⟨⟨(q, σ), rfl, ⟨rfl, hO, fun _ _ => rfl, Or.inr ⟨by omega, rfl⟩⟩, Wd_mk (wP_left hP) hE0 hS ht hW⟩, hS.F ht⟩) hS.2.2 dX1_write_9

set_option maxHeartbeats 4000000 in
set_option maxRecDepth 100000 in
/-- X0_wearBy -/
theorem c_X0_wearBy (l : Launch) (D : va_G) (cy : Nat → ClassId) (a q : Nat → Nat) (σ : Nat → Nat → Int) (sz : Nat) (i : Nat) (hi : i < 3) (load : Int) (hload : rg load) (hw9 : 0 ≤ σ (3 + i) 10 ∧ σ (3 + i) 10 ≤ 1000) (hl9 : 0 ≤ load ∧ load ≤ 199) (hf9 : σ (3 + i) 2 = 2 ∨ σ (3 + i) 2 = 4) : Met l yX0_wearBy wsX0_wearBy ({ frames := 7, cells := 0, slots := 0, locals := 100 }) (va_Pc [.ref (a (3 + i)), .int (zI (load))] (fun U => U.heap.size = sz ∧ Wd D cy a q σ U)) (va_Qv (fun (u : ((Nat → Nat) × (Nat → Nat → Int))) => u.1 = q ∧ u.2 = up2 σ (3 + i) 10 (σ (3 + i) 10 + (load * σ (3 + i) 2 / 4 + 1))) (fun (u : ((Nat → Nat) × (Nat → Nat → Int))) t => Wd D cy a u.1 u.2 t) (wF a sz)) 0 0 (wF a sz) := by
  refine Met.ofW (cc := cX0_wearBy) (maxL := 2) (ret := none) (by decide) rfl ?_
  intro p e s m args below meth c s₁ B hml hpc0
  obtain ⟨rfl, hsz, hW0⟩ := hpc0
  have hx := B.exec
  have hb := B.bytes
  have hr := B.returns
  have hts := atoms_spec (ws := wsX0_wearBy) B.pre
  have hown : s.vm.findClass RX0 = some m.cls := findClass_of_methodNamed B.named
  have hlocks := B.notSynchronized
  subst hsz
  obtain ⟨hP00, hE0⟩ := id hW0
  obtain ⟨hK, hinj, hU0, hN0, hstr, hnest⟩ := id hE0
  have hP : va_P D vwCl (wld cy a q σ ++ []) s.heap := by rw [List.append_nil]; exact hP00
  have hD : va_D (wF a s.heap.size) (wld cy a q σ ++ []) := wD_of hinj
  have hA : ∀ x : Nat, s.heap.size ≤ x → wF a s.heap.size x := fun _ h => Or.inr h
  have hS : va_S (wF a s.heap.size) s.heap s.heap [] := va_S.rf
  have hk0 : ∀ x : Nat, x < s.heap.size → s.heap[x]? = s.heap[x]? := fun _ _ => rfl
  have hl := lv_entry ([.ref (a (3 + i)), .int (zI (load))]) (n := 2) (Nat.le_of_ble_eq_true rfl)
  rw [lg_entry_eq]
  generalize (lg_sl ([.ref (a (3 + i)), .int (zI (load))]) ++ List.replicate (2 - (lg_sl ([.ref (a (3 + i)), .int (zI (load))])).length) Slot.unset).toArray = ls at hl ⊢
  have hl : lv_has ls 2 [(0, .ref (a (3 + i))), (1, .int (zI (load)))] := hl
  have k22 := hts (.fieldLink RX0 22 "Slewfree$Crane" "falls" "I") (by decide +kernel)
  have k43 := hts (.fieldLink RX0 43 "Slewfree$Crane" "wear" "I") (by decide +kernel)
  have inX0 : ∀ w ∈ u_ws RX0 TX0 12, w ∈ wsX0_wearBy := by decide +kernel
  have hm9 : 0 ≤ load * σ (3 + i) 2 ∧ load * σ (3 + i) 2 ≤ 796 := by rcases hf9 with h | h <;> rw [h] <;> omega
  refine lv_aload_n hx hb dX0_wearBy_0 rfl (lv_at hl 0 rfl) ?_
  refine lv_dup hx hb dX0_wearBy_1 rfl ?_
  refine va_get (D := D) (ci := 2) (v := .int (zI (σ (3 + i) 10))) (C := RX0) (T := TX0) (N := 12) hx hb hts inX0 hown hK hP (3 + i) (wg_C (i := i) (by first | assumption | omega)) rfl 10 (by decide) k43 (fun _ h9 => h9) rfl dX0_wearBy_2 ?_
  refine lv_iload_n hx hb dX0_wearBy_5 rfl (lv_at hl 1 rfl) ?_
  refine lv_aload_n hx hb dX0_wearBy_6 rfl (lv_at hl 0 rfl) ?_
  refine va_get (D := D) (ci := 2) (v := .int (zI (σ (3 + i) 2))) (C := RX0) (T := TX0) (N := 12) hx hb hts inX0 hown hK hP (3 + i) (wg_C (i := i) (by first | assumption | omega)) rfl 2 (by decide) k22 (fun _ h9 => h9) rfl dX0_wearBy_7 ?_
  refine z_imul hx hb dX0_wearBy_10 ?_
  refine lv_iconst (v := zI 4) hx hb dX0_wearBy_11 rfl ?_
  refine z_idiv hx hb dX0_wearBy_12 (by omega) (by omega) ?_
  refine lv_iconst (v := zI 1) hx hb dX0_wearBy_13 rfl ?_
  refine z_iadd hx hb dX0_wearBy_14 ?_
  refine z_iadd hx hb dX0_wearBy_15 ?_
  refine w_put (ty := .int) (z := (σ (3 + i) 10) + (((load * (σ (3 + i) 2)) / 4) + 1)) (C := RX0) (T := TX0) (N := 12) hx hb hts inX0 tyX0 tyX0_ok nmX0 hown hK hP hD hS (3 + i) (by omega) (ci := 2) (fs := fC) (fun _ => wc_C (i := i) (by first | assumption | omega)) rfl 10 (by decide) k43 (fun _ h9 => h9) rfl (by decide +kernel) rfl rfl (Nat.le_of_ble_eq_true rfl) rfl dX0_wearBy_16 (fun H locs hP hD hS => ?_)
  obtain ⟨σp16, eσp16⟩ : ∃ z, z = up2 σ (3 + i) 10 ((σ (3 + i) 10) + (((load * (σ (3 + i) 2)) / 4) + 1)) := ⟨_, rfl⟩
  rw [← eσp16] at hP hD
  exact W.vret hx hb hr (fun t9 ht hW => ⟨⟨(q, σp16), rfl, ⟨rfl, eσp16⟩, Wd_mk (wP_left hP) hE0 hS ht hW⟩, hS.F ht⟩) hS.2.2 dX0_wearBy_19

set_option maxHeartbeats 4000000 in
set_option maxRecDepth 100000 in
/-- X5_goOnByAMinute -/
theorem c_X5_goOnByAMinute (l : Launch) (D : va_G) (cy : Nat → ClassId) (a q : Nat → Nat) (σ : Nat → Nat → Int) (sz : Nat) (t0 : Int) (wi : Int) (hO : okA t0 wi q σ) (hm9 : σ 1 0 < 9999) : Met l yX5_goOnByAMinute wsX5_goOnByAMinute ({ frames := 8, cells := 0, slots := 0, locals := 200 }) (va_Pc [.ref (a 1)] (fun U => U.heap.size = sz ∧ Wd D cy a q σ U)) (va_Qv (fun (u : ((Nat → Nat) × (Nat → Nat → Int))) => u.1 = q ∧ okA t0 0 q u.2 ∧ Ev σ u.2 ∧ u.2 1 0 = σ 1 0 + 1 ∧ (∀ k, k ≠ 1 → u.2 k = σ k)) (fun (u : ((Nat → Nat) × (Nat → Nat → Int))) t => Wd D cy a u.1 u.2 t) (wF a sz)) 0 0 (wF a sz) := by
  refine Met.ofW (cc := cX5_goOnByAMinute) (maxL := 1) (ret := none) (by decide) rfl ?_
  intro p e s m args below meth c s₁ B hml hpc0
  obtain ⟨rfl, hsz, hW0⟩ := hpc0
  have hx := B.exec
  have hb := B.bytes
  have hr := B.returns
  have hts := atoms_spec (ws := wsX5_goOnByAMinute) B.pre
  have hown : s.vm.findClass RX5 = some m.cls := findClass_of_methodNamed B.named
  have hlocks := B.notSynchronized
  subst hsz
  obtain ⟨hP00, hE0⟩ := id hW0
  obtain ⟨hK, hinj, hU0, hN0, hstr, hnest⟩ := id hE0
  have hP : va_P D vwCl (wld cy a q σ ++ []) s.heap := by rw [List.append_nil]; exact hP00
  have hD : va_D (wF a s.heap.size) (wld cy a q σ ++ []) := wD_of hinj
  have hA : ∀ x : Nat, s.heap.size ≤ x → wF a s.heap.size x := fun _ h => Or.inr h
  have hS : va_S (wF a s.heap.size) s.heap s.heap [] := va_S.rf
  have hk0 : ∀ x : Nat, x < s.heap.size → s.heap[x]? = s.heap[x]? := fun _ _ => rfl
  have hl := lv_entry ([.ref (a 1)]) (n := 1) (Nat.le_of_ble_eq_true rfl)
  rw [lg_entry_eq]
  generalize (lg_sl ([.ref (a 1)]) ++ List.replicate (1 - (lg_sl ([.ref (a 1)])).length) Slot.unset).toArray = ls at hl ⊢
  have hl : lv_has ls 1 [(0, .ref (a 1))] := hl
  have k9 := hts (.fieldLink RX5 9 "Slewfree$Weather" "luck" "I") (by decide +kernel)
  have k15 := hts (.fieldLink RX5 15 "Slewfree$Weather" "minute" "I") (by decide +kernel)
  have k18 := hts (.fieldLink RX5 18 "Slewfree$Weather" "base" "I") (by decide +kernel)
  have k21 := hts (.fieldLink RX5 21 "Slewfree$Weather" "gusts" "I") (by decide +kernel)
  have k24 := hts (.fieldLink RX5 24 "Slewfree$Weather" "wind" "I") (by decide +kernel)
  have k31 := hts (.fieldLink RX5 31 "Slewfree$Weather" "lostMinutes" "I") (by decide +kernel)
  have inX5 : ∀ w ∈ u_ws RX5 TX5 7, w ∈ wsX5_goOnByAMinute := by decide +kernel
  obtain ⟨oS, oW, oC, oZ, oM, oL, oP, oQ, oH⟩ := id hO
  unfold okS at oS; unfold okW at oW; unfold okL at oL
  refine lv_aload_n hx hb dX5_goOnByAMinute_0 rfl (lv_at hl 0 rfl) ?_
  refine lv_dup hx hb dX5_goOnByAMinute_1 rfl ?_
  refine va_get (D := D) (ci := 7) (v := .int (zI (σ 1 0))) (C := RX5) (T := TX5) (N := 7) hx hb hts inX5 hown hK hP 1 wg_W rfl 0 (by decide) k15 (fun _ h9 => h9) rfl dX5_goOnByAMinute_2 ?_
  refine lv_iconst (v := zI 1) hx hb dX5_goOnByAMinute_5 rfl ?_
  refine z_iadd hx hb dX5_goOnByAMinute_6 ?_
  refine w_put (ty := .int) (z := (σ 1 0) + 1) (C := RX5) (T := TX5) (N := 7) hx hb hts inX5 tyX5 tyX5_ok nmX5 hown hK hP hD hS 1 (by omega) (ci := 7) (fs := fW) (fun _ => wc_W) rfl 0 (by decide) k15 (fun _ h9 => h9) rfl (by decide +kernel) rfl rfl (Nat.le_of_ble_eq_true rfl) rfl dX5_goOnByAMinute_7 (fun H locs hP hD hS => ?_)
  obtain ⟨σp7, eσp7⟩ : ∃ z, z = up2 σ 1 0 ((σ 1 0) + 1) := ⟨_, rfl⟩
  rw [← eσp7] at hP hD
  refine lv_aload_n hx hb dX5_goOnByAMinute_10 rfl (lv_at hl 0 rfl) ?_
  refine lv_bipush (v := zI 53) hx hb dX5_goOnByAMinute_11 (by decide +kernel) ?_
  refine lv_aload_n hx hb dX5_goOnByAMinute_13 rfl (lv_at hl 0 rfl) ?_
  refine va_get (D := D) (ci := 7) (v := .int (zI (σ 1 1))) (C := RX5) (T := TX5) (N := 7) hx hb hts inX5 hown hK hP 1 wg_W rfl 1 (by decide) k9 (fun _ h9 => h9) (by show some (Value.int (zI (σp7 1 1))) = some (Value.int (zI (σ 1 1))); rw [eσp7, g_fe (by decide)]) dX5_goOnByAMinute_14 ?_
  refine z_imul hx hb dX5_goOnByAMinute_17 ?_
  refine lv_bipush (v := zI 101) hx hb dX5_goOnByAMinute_18 (by decide +kernel) ?_
  refine z_iadd hx hb dX5_goOnByAMinute_20 ?_
  refine lv_sipush (v := zI 1024) hx hb dX5_goOnByAMinute_21 (by decide +kernel) ?_
  refine z_irem hx hb dX5_goOnByAMinute_24 (by omega) (by omega) ?_
  refine w_put (ty := .int) (z := ((53 * (σ 1 1)) + 101) % 1024) (C := RX5) (T := TX5) (N := 7) hx hb hts inX5 tyX5 tyX5_ok nmX5 hown hK hP hD hS 1 (by omega) (ci := 7) (fs := fW) (fun _ => wc_W) rfl 1 (by decide) k9 (fun _ h9 => h9) rfl (by decide +kernel) rfl rfl (Nat.le_of_ble_eq_true rfl) rfl dX5_goOnByAMinute_25 (fun H locs hP hD hS => ?_)
  obtain ⟨σp25, eσp25⟩ : ∃ z, z = up2 σp7 1 1 (((53 * (σ 1 1)) + 101) % 1024) := ⟨_, rfl⟩
  rw [← eσp25] at hP hD
  have hlk : 0 ≤ ((53 * σ 1 1) + 101) % 1024 ∧ ((53 * σ 1 1) + 101) % 1024 ≤ 1023 := by omega
  have hml9 := mul_bound (d := ((53 * σ 1 1) + 101) % 1024) (k := σ 1 3 + 1) (m := 1023) (n := 11) (by omega) (by omega) (by omega) (by omega)
  refine lv_aload_n hx hb dX5_goOnByAMinute_28 rfl (lv_at hl 0 rfl) ?_
  refine lv_aload_n hx hb dX5_goOnByAMinute_29 rfl (lv_at hl 0 rfl) ?_
  refine va_get (D := D) (ci := 7) (v := .int (zI (σ 1 2))) (C := RX5) (T := TX5) (N := 7) hx hb hts inX5 hown hK hP 1 wg_W rfl 2 (by decide) k18 (fun _ h9 => h9) (by show some (Value.int (zI (σp25 1 2))) = some (Value.int (zI (σ 1 2))); rw [eσp25, g_fe (by decide), eσp7, g_fe (by decide)]) dX5_goOnByAMinute_30 ?_
  refine lv_aload_n hx hb dX5_goOnByAMinute_33 rfl (lv_at hl 0 rfl) ?_
  refine va_get (D := D) (ci := 7) (v := .int (zI (((53 * (σ 1 1)) + 101) % 1024))) (C := RX5) (T := TX5) (N := 7) hx hb hts inX5 hown hK hP 1 wg_W rfl 1 (by decide) k9 (fun _ h9 => h9) (by show some (Value.int (zI (σp25 1 1))) = some (Value.int (zI (((53 * (σ 1 1)) + 101) % 1024))); rw [eσp25, g_eq]) dX5_goOnByAMinute_34 ?_
  refine lv_aload_n hx hb dX5_goOnByAMinute_37 rfl (lv_at hl 0 rfl) ?_
  refine va_get (D := D) (ci := 7) (v := .int (zI (σ 1 3))) (C := RX5) (T := TX5) (N := 7) hx hb hts inX5 hown hK hP 1 wg_W rfl 3 (by decide) k21 (fun _ h9 => h9) (by show some (Value.int (zI (σp25 1 3))) = some (Value.int (zI (σ 1 3))); rw [eσp25, g_fe (by decide), eσp7, g_fe (by decide)]) dX5_goOnByAMinute_38 ?_
  refine lv_iconst (v := zI 1) hx hb dX5_goOnByAMinute_41 rfl ?_
  refine z_iadd hx hb dX5_goOnByAMinute_42 ?_
  refine z_imul hx hb dX5_goOnByAMinute_43 ?_
  refine lv_sipush (v := zI 1024) hx hb dX5_goOnByAMinute_44 (by decide +kernel) ?_
  refine z_idiv hx hb dX5_goOnByAMinute_47 (by omega) (by omega) ?_
  refine z_iadd hx hb dX5_goOnByAMinute_48 ?_
  refine w_put (ty := .int) (z := (σ 1 2) + (((((53 * (σ 1 1)) + 101) % 1024) * ((σ 1 3) + 1)) / 1024)) (C := RX5) (T := TX5) (N := 7) hx hb hts inX5 tyX5 tyX5_ok nmX5 hown hK hP hD hS 1 (by omega) (ci := 7) (fs := fW) (fun _ => wc_W) rfl 5 (by decide) k24 (fun _ h9 => h9) rfl (by decide +kernel) rfl rfl (Nat.le_of_ble_eq_true rfl) rfl dX5_goOnByAMinute_49 (fun H locs hP hD hS => ?_)
  obtain ⟨σp49, eσp49⟩ : ∃ z, z = up2 σp25 1 5 ((σ 1 2) + (((((53 * (σ 1 1)) + 101) % 1024) * ((σ 1 3) + 1)) / 1024)) := ⟨_, rfl⟩
  rw [← eσp49] at hP hD
  have fw5 : σp49 1 5 = (σ 1 2) + (((((53 * (σ 1 1)) + 101) % 1024) * ((σ 1 3) + 1)) / 1024) := by rw [eσp49, g_eq]
  refine lv_aload_n hx hb dX5_goOnByAMinute_52 rfl (lv_at hl 0 rfl) ?_
  refine va_calli (va_runV (As := []) (rest := []) ⟨hx, hb, hml, hown, hts⟩ (c_X5_isStorm l D cy a q σp49 H.size (by rw [fw5]; omega)) (cwV 0 hts gX5_goOnByAMinute_X5_isStorm rfl rfl rfl (by decide +kernel) ⟨Nat.le_of_ble_eq_true rfl, Nat.le_of_ble_eq_true rfl⟩) ⟨Wd_blind, va_recv hK hP (ci := 7) (q0 := 1) rfl wg_W, fun U hU hW => ⟨rfl, by rw [hU], Wd_mk (wP_left hP) hE0 hS hU hW⟩⟩ rfl rfl hl.1 rfl (lv_room (Nat.le_of_ble_eq_true rfl)) dX5_goOnByAMinute_53 ⟨(show 0 + 0 ≤ 0 by omega), (show 0 + 0 ≤ 0 by omega)⟩) hS (fun _ _ h => h.elim) (fun _ h => wF_mono hS.1 _ h) (fun rv53 u9 t9 H locs ht hvm hw hB hz hk hS1 => ?_)
  have hP := hP.kept (fun k x hk9 => hk x.1 ((hP k x hk9).lt) (fun h => h))
  have hS := hS1
  rcases hw with ⟨rfl, bd53⟩ | ⟨rfl, bd53⟩
  · skip
    refine z_if_eq (tgt := 69) hx hb dX5_goOnByAMinute_56 (by decide) (by decide) (fun cd56 => absurd cd56 (by decide)) (fun _ => ?_)
    refine lv_aload_n hx hb dX5_goOnByAMinute_59 rfl (lv_at hl 0 rfl) ?_
    refine lv_dup hx hb dX5_goOnByAMinute_60 rfl ?_
    refine va_get (D := D) (ci := 7) (v := .int (zI (σ 1 6))) (C := RX5) (T := TX5) (N := 7) hx hb hts inX5 hown hK hP 1 wg_W rfl 6 (by decide) k31 (fun _ h9 => h9) (by show some (Value.int (zI (σp49 1 6))) = some (Value.int (zI (σ 1 6))); rw [eσp49, g_fe (by decide), eσp25, g_fe (by decide), eσp7, g_fe (by decide)]) dX5_goOnByAMinute_61 ?_
    refine lv_iconst (v := zI 1) hx hb dX5_goOnByAMinute_64 rfl ?_
    refine z_iadd hx hb dX5_goOnByAMinute_65 ?_
    refine w_put (ty := .int) (z := (σ 1 6) + 1) (C := RX5) (T := TX5) (N := 7) hx hb hts inX5 tyX5 tyX5_ok nmX5 hown hK hP hD hS 1 (by omega) (ci := 7) (fs := fW) (fun _ => wc_W) rfl 6 (by decide) k31 (fun _ h9 => h9) rfl (by decide +kernel) rfl rfl (Nat.le_of_ble_eq_true rfl) rfl dX5_goOnByAMinute_66 (fun H locs hP hD hS => ?_)
    obtain ⟨σp66, eσp66⟩ : ∃ z, z = up2 σp49 1 6 ((σ 1 6) + 1) := ⟨_, rfl⟩
    rw [← eσp66] at hP hD
    refine W.widen (k := 0) (n := 0) (by omega) (by omega) ?_
    have eR : σp66 = upR σ 1 (upr (upr (upr (upr (σ 1) 0 (σ 1 0 + 1)) 1 (((53 * σ 1 1) + 101) % 1024)) 5 (σ 1 2 + (((53 * σ 1 1) + 101) % 1024) * (σ 1 3 + 1) / 1024)) 6 (σ 1 6 + 1)) := by
      rw [eσp66, eσp49, eσp25, eσp7]
      simp only [up2, upR_s, upR_R]
    have hW9 : okW (upr (upr (upr (upr (σ 1) 0 (σ 1 0 + 1)) 1 (((53 * σ 1 1) + 101) % 1024)) 5 (σ 1 2 + (((53 * σ 1 1) + 101) % 1024) * (σ 1 3 + 1) / 1024)) 6 (σ 1 6 + 1)) := by
      show 0 ≤ σ 1 0 + 1 ∧ σ 1 0 + 1 ≤ 9999 ∧ 0 ≤ (((53 * σ 1 1) + 101) % 1024) ∧ (((53 * σ 1 1) + 101) % 1024) ≤ 1023 ∧ 0 ≤ σ 1 2 ∧ σ 1 2 ≤ 30 ∧ 0 ≤ σ 1 3 ∧ σ 1 3 ≤ 10 ∧ 0 ≤ σ 1 4 ∧ σ 1 4 ≤ 23 ∧ 0 ≤ σ 1 2 + (((53 * σ 1 1) + 101) % 1024) * (σ 1 3 + 1) / 1024 ∧ σ 1 2 + (((53 * σ 1 1) + 101) % 1024) * (σ 1 3 + 1) / 1024 ≤ 41 ∧ 0 ≤ σ 1 6 + 1 ∧ σ 1 6 + 1 ≤ σ 1 0 + 1
      omega
    have hO1 : okA t0 0 q σp66 := by rw [eR]; exact okA_W (okA_wi hO (fun _ _ _ h => absurd h (by decide))) hW9
    have hE1 : Ev σ σp66 := by rw [eR]; exact Ev_W (show σ 1 0 ≤ σ 1 0 + 1 by omega) (show σ 1 6 ≤ σ 1 6 + 1 by omega)
    have h01 : σp66 1 0 = σ 1 0 + 1 := by rw [eR, upR_s]; rfl
    have hk1 : ∀ k, k ≠ 1 → σp66 k = σ k := fun k hk => by rw [eR, upR_n hk]
    exact W.vret hx hb hr (fun t9 ht hW => ⟨⟨(q, σp66), rfl, ⟨rfl, hO1, hE1, h01, hk1⟩, Wd_mk (wP_left hP) hE0 hS ht hW⟩, hS.F ht⟩) hS.2.2 dX5_goOnByAMinute_69
  · skip
    refine z_if_eq (tgt := 69) hx hb dX5_goOnByAMinute_56 (by decide) (by decide) (fun _ => ?_) (fun cd56 => absurd cd56 (by decide))
    refine W.widen (k := 0) (n := 0) (by omega) (by omega) ?_
    have eR : σp49 = upR σ 1 (upr (upr (upr (σ 1) 0 (σ 1 0 + 1)) 1 (((53 * σ 1 1) + 101) % 1024)) 5 (σ 1 2 + (((53 * σ 1 1) + 101) % 1024) * (σ 1 3 + 1) / 1024)) := by
      rw [eσp49, eσp25, eσp7]
      simp only [up2, upR_s, upR_R]
    have hW9 : okW (upr (upr (upr (σ 1) 0 (σ 1 0 + 1)) 1 (((53 * σ 1 1) + 101) % 1024)) 5 (σ 1 2 + (((53 * σ 1 1) + 101) % 1024) * (σ 1 3 + 1) / 1024)) := by
      show 0 ≤ σ 1 0 + 1 ∧ σ 1 0 + 1 ≤ 9999 ∧ 0 ≤ (((53 * σ 1 1) + 101) % 1024) ∧ (((53 * σ 1 1) + 101) % 1024) ≤ 1023 ∧ 0 ≤ σ 1 2 ∧ σ 1 2 ≤ 30 ∧ 0 ≤ σ 1 3 ∧ σ 1 3 ≤ 10 ∧ 0 ≤ σ 1 4 ∧ σ 1 4 ≤ 23 ∧ 0 ≤ σ 1 2 + (((53 * σ 1 1) + 101) % 1024) * (σ 1 3 + 1) / 1024 ∧ σ 1 2 + (((53 * σ 1 1) + 101) % 1024) * (σ 1 3 + 1) / 1024 ≤ 41 ∧ 0 ≤ σ 1 6 ∧ σ 1 6 ≤ σ 1 0 + 1
      omega
    have hO1 : okA t0 0 q σp49 := by rw [eR]; exact okA_W (okA_wi hO (fun _ _ _ h => absurd h (by decide))) hW9
    have hE1 : Ev σ σp49 := by rw [eR]; exact Ev_W (show σ 1 0 ≤ σ 1 0 + 1 by omega) (show σ 1 6 ≤ σ 1 6 by omega)
    have h01 : σp49 1 0 = σ 1 0 + 1 := by rw [eR, upR_s]; rfl
    have hk1 : ∀ k, k ≠ 1 → σp49 k = σ k := fun k hk => by rw [eR, upR_n hk]
    exact W.vret hx hb hr (fun t9 ht hW => ⟨⟨(q, σp49), rfl, ⟨rfl, hO1, hE1, h01, hk1⟩, Wd_mk (wP_left hP) hE0 hS ht hW⟩, hS.F ht⟩) hS.2.2 dX5_goOnByAMinute_69

set_option maxHeartbeats 4000000 in
set_option maxRecDepth 100000 in
/-- X7_freeLockedJibs -/
theorem c_X7_freeLockedJibs (l : Launch) (D : va_G) (cy : Nat → ClassId) (a q : Nat → Nat) (σ : Nat → Nat → Int) (sz : Nat) (t0 : Int) (hO : okA t0 0 q σ) : Met l yX7_freeLockedJibs wsX7_freeLockedJibs ({ frames := 9, cells := 0, slots := 0, locals := 300 }) (va_Pc [.ref (a 0)] (fun U => U.heap.size = sz ∧ Wd D cy a q σ U)) (va_Qv (fun (u : ((Nat → Nat) × (Nat → Nat → Int))) => u.1 = q ∧ okA t0 (u.2 1 5) q u.2 ∧ Ev σ u.2 ∧ u.2 1 = σ 1) (fun (u : ((Nat → Nat) × (Nat → Nat → Int))) t => Wd D cy a u.1 u.2 t) (wF a sz)) 0 0 (wF a sz) := by
  refine Met.ofW (cc := cX7_freeLockedJibs) (maxL := 2) (ret := none) (by decide) rfl ?_
  intro p e s m args below meth c s₁ B hml hpc0
  obtain ⟨rfl, hsz, hW0⟩ := hpc0
  have hx := B.exec
  have hb := B.bytes
  have hr := B.returns
  have hts := atoms_spec (ws := wsX7_freeLockedJibs) B.pre
  have hown : s.vm.findClass RX7 = some m.cls := findClass_of_methodNamed B.named
  have hlocks := B.notSynchronized
  subst hsz
  obtain ⟨hP00, hE0⟩ := id hW0
  obtain ⟨hK, hinj, hU0, hN0, hstr, hnest⟩ := id hE0
  have hP : va_P D vwCl (wld cy a q σ ++ []) s.heap := by rw [List.append_nil]; exact hP00
  have hD : va_D (wF a s.heap.size) (wld cy a q σ ++ []) := wD_of hinj
  have hA : ∀ x : Nat, s.heap.size ≤ x → wF a s.heap.size x := fun _ h => Or.inr h
  have hS : va_S (wF a s.heap.size) s.heap s.heap [] := va_S.rf
  have hk0 : ∀ x : Nat, x < s.heap.size → s.heap[x]? = s.heap[x]? := fun _ _ => rfl
  have hl := lv_entry ([.ref (a 0)]) (n := 2) (Nat.le_of_ble_eq_true rfl)
  rw [lg_entry_eq]
  generalize (lg_sl ([.ref (a 0)]) ++ List.replicate (2 - (lg_sl ([.ref (a 0)])).length) Slot.unset).toArray = ls at hl ⊢
  have hl : lv_has ls 2 [(0, .ref (a 0))] := hl
  have k10 := hts (.fieldLink RX7 10 "Slewfree" "weather" "LSlewfree$Weather;") (by decide +kernel)
  have k18 := hts (.fieldLink RX7 18 "Slewfree" "cranes" "[LSlewfree$Crane;") (by decide +kernel)
  have k42 := hts (.fieldLink RX7 42 "Slewfree" "log" "LSlewfree$Log;") (by decide +kernel)
  have k57 := hts (.fieldLink RX7 57 "Slewfree" "craneCount" "I") (by decide +kernel)
  have k79 := hts (.fieldLink RX7 79 "Slewfree$Crane" "isLocked" "Z") (by decide +kernel)
  have k104 := hts (.fieldLink RX7 104 "Slewfree$Weather" "wind" "I") (by decide +kernel)
  have inX0 : ∀ w ∈ u_ws RX0 TX0 12, w ∈ wsX7_freeLockedJibs := by decide +kernel
  have inX5 : ∀ w ∈ u_ws RX5 TX5 7, w ∈ wsX7_freeLockedJibs := by decide +kernel
  have inX7 : ∀ w ∈ u_ws RX7 TX7 9, w ∈ wsX7_freeLockedJibs := by decide +kernel
  obtain ⟨oS, oW, oC, oZ, oM, oL, oP, oQ, oH⟩ := id hO
  unfold okS at oS; unfold okW at oW; unfold okL at oL
  refine lv_iconst (v := zI 0) hx hb dX7_freeLockedJibs_0 rfl ?_
  refine lv_istore_n (lv' := [(1, .int (zI (0))), (0, .ref (a 0))]) hx hb dX7_freeLockedJibs_1 rfl hl (by decide) rfl (fun ls hl => ?_)
  have loop2 : ∀ (n : Nat) (i : Nat) (τ : Nat → Nat → Int) (H : Heap) (locs : List Loc) (ls : Array Slot), 3 - i < n → ((i : Int) ≤ τ 0 5) → (okA t0 0 q τ) → (Ev σ τ) → (τ 1 = σ 1) → (τ 0 = σ 0) → (∀ j, j < i → τ (3 + j) 5 = 0) → va_P D vwCl (wld cy a q τ ++ []) H → va_D (wF a s.heap.size) (wld cy a q τ ++ []) → va_S (wF a s.heap.size) s.heap H locs → lv_has ls 2 [(0, .ref (a 0)), (1, .int (zI ((i : Int))))] → W p l e (headSpec wsX7_freeLockedJibs ({ frames := 9, cells := 0, slots := 0, locals := 300 })).room s m ([.ref (a 0)] : List Value).toArray below meth c H locs (0) (0) (MQ below (va_Qv (fun (u : ((Nat → Nat) × (Nat → Nat → Int))) => u.1 = q ∧ okA t0 (u.2 1 5) q u.2 ∧ Ev σ u.2 ∧ u.2 1 = σ 1) (fun (u : ((Nat → Nat) × (Nat → Nat → Int))) t => Wd D cy a u.1 u.2 t) (wF a s.heap.size)) ([.ref (a 0)] : List Value).toArray s 0 0 (wF a s.heap.size)) (F0 m 2 ls []) := by
    intro n
    induction n with
    | zero => intro i τ H locs ls h0; exact absurd h0 (Nat.not_lt_zero _)
    | succ n ih2 =>
      intro i τ H locs ls hms hi hO1 hE1 hr1 hr0 hfr hP hD hS hl
      obtain ⟨oS1, oW1, oC1, oZ1, oM1, oL1, oP1, oQ1, oH1⟩ := id hO1
      unfold okS at oS1; unfold okW at oW1; unfold okL at oL1
      refine lv_iload_n hx hb dX7_freeLockedJibs_2 rfl (lv_at hl 1 rfl) ?_
      refine lv_aload_n hx hb dX7_freeLockedJibs_3 rfl (lv_at hl 0 rfl) ?_
      refine va_get (D := D) (ci := 9) (v := .int (zI (τ 0 5))) (C := RX7) (T := TX7) (N := 9) hx hb hts inX7 hown hK hP 0 wg_S rfl 5 (by decide) k57 (fun _ h9 => h9) rfl dX7_freeLockedJibs_4 ?_
      refine z_icmp_ge (tgt := 57) hx hb dX7_freeLockedJibs_7 (by decide) (by omega) (by omega) (fun cd7 => ?_) (fun cd7 => ?_)
      · skip
        exact W.vret hx hb hr (fun t9 ht hW => ⟨⟨(q, τ), rfl, ⟨rfl, (show okA t0 (τ 1 5) q τ from okA_wi hO1 (fun j h1 h2 _ => hfr j (by omega))), hE1, hr1⟩, Wd_mk (wP_left hP) hE0 hS ht hW⟩, hS.F ht⟩) hS.2.2 dX7_freeLockedJibs_57
      · skip
        have oCi := oC1 i (by omega); unfold okC at oCi
        refine lv_aload_n hx hb dX7_freeLockedJibs_10 rfl (lv_at hl 0 rfl) ?_
        refine va_get (D := D) (ci := 9) (v := .ref (a 2)) (C := RX7) (T := TX7) (N := 9) hx hb hts inX7 hown hK hP 0 wg_S rfl 1 (by decide) k18 (fun _ h9 => h9) rfl dX7_freeLockedJibs_11 ?_
        refine lv_iload_n hx hb dX7_freeLockedJibs_14 rfl (lv_at hl 1 rfl) ?_
        refine z_aald (i := i) hx hb hK hP 2 0 wg_AC rfl (by omega) (by omega) (by omega) dX7_freeLockedJibs_15 ?_
        refine va_get (D := D) (ci := 2) (v := .int (zI (τ (3 + i) 5))) (C := RX0) (T := TX0) (N := 12) hx hb hts inX0 hown hK hP (3 + i) (wg_C (i := i) (by first | assumption | omega)) rfl 5 (by decide) k79 (fun _ h9 => h9) rfl dX7_freeLockedJibs_16 ?_
        refine z_if_eq (tgt := 51) hx hb dX7_freeLockedJibs_19 (by decide) (by omega) (fun cd19 => ?_) (fun cd19 => ?_)
        · skip
          refine lv_iinc (v := zI ((i : Int) + 1)) (lv' := [(1, .int (zI ((i : Int) + 1))), (0, .ref (a 0))]) hx hb dX7_freeLockedJibs_51 hl (k := 1) rfl (zI_add _ _) (by decide) rfl (fun ls hl => ?_)
          refine lv_goto (tgt := 2) hx hb dX7_freeLockedJibs_54 (by decide) ?_
          exact ih2 (i + 1) τ H locs ls (by omega) (by omega) hO1 hE1 hr1 hr0 (lt_s hfr (by omega))  hP hD hS (by have h9 := lv_sub hl [1, 0] rfl; exact h9)
        · skip
          refine lv_aload_n hx hb dX7_freeLockedJibs_22 rfl (lv_at hl 0 rfl) ?_
          refine va_get (D := D) (ci := 9) (v := .ref (a 2)) (C := RX7) (T := TX7) (N := 9) hx hb hts inX7 hown hK hP 0 wg_S rfl 1 (by decide) k18 (fun _ h9 => h9) rfl dX7_freeLockedJibs_23 ?_
          refine lv_iload_n hx hb dX7_freeLockedJibs_26 rfl (lv_at hl 1 rfl) ?_
          refine z_aald (i := i) hx hb hK hP 2 0 wg_AC rfl (by omega) (by omega) (by omega) dX7_freeLockedJibs_27 ?_
          refine lv_iconst (v := zI 0) hx hb dX7_freeLockedJibs_28 rfl ?_
          refine w_put (ty := .boolean) (z := 0) (C := RX0) (T := TX0) (N := 12) hx hb hts inX0 tyX0 tyX0_ok nmX0 hown hK hP hD hS (3 + i) (by omega) (ci := 2) (fs := fC) (fun _ => wc_C (i := i) (by first | assumption | omega)) rfl 5 (by decide) k79 (fun _ h9 => h9) rfl (by decide +kernel) rfl rfl (Nat.le_of_ble_eq_true rfl) rfl dX7_freeLockedJibs_29 (fun H locs hP hD hS => ?_)
          obtain ⟨σp29, eσp29⟩ : ∃ z, z = up2 τ (3 + i) 5 (0) := ⟨_, rfl⟩
          rw [← eσp29] at hP hD
          have hO1 : okA t0 0 q σp29 := by
            rw [eσp29]
            refine okA_C hO1 (by omega) ?_
            show τ (3 + i) 0 = i ∧ 0 ≤ τ (3 + i) 3 ∧ τ (3 + i) 3 ≤ 23 ∧ ((0 : Int) = 0 ∨ (0 : Int) = 1) ∧ (0 ≤ τ (3 + i) 9 ∧ τ (3 + i) 9 ≤ τ (3 + i) 8 ∧ τ (3 + i) 8 ≤ τ (3 + i) 7 ∧ τ (3 + i) 7 ≤ τ (3 + i) 6 ∧ τ (3 + i) 6 ≤ 99) ∧ 0 ≤ τ (3 + i) 10 ∧ τ (3 + i) 10 ≤ 1000 ∧ 0 ≤ τ (3 + i) 11 ∧ τ (3 + i) 11 ≤ t0 ∧ ((i : Int) < τ 0 5 → 10 ≤ τ (3 + i) 1 ∧ τ (3 + i) 1 ≤ 40 ∧ (τ (3 + i) 2 = 2 ∨ τ (3 + i) 2 = 4) ∧ 10 ≤ τ (3 + i) 4 ∧ τ (3 + i) 4 ≤ τ (3 + i) 1 ∧ (12 < (0 : Int) → (0 : Int) = 0))
            omega
          have hE1 : Ev σ σp29 := hE1.tr (by rw [eσp29]; exact Ev_C (by omega) (Int.le_refl _))
          have hk9 : ∀ k, k ≠ 3 + i → σp29 k = τ k := fun k hk => by rw [eσp29, up2_n hk]
          have hl9 : σp29 (3 + i) 5 = 0 := by rw [eσp29, g_eq]
          refine lv_aload_n hx hb dX7_freeLockedJibs_32 rfl (lv_at hl 0 rfl) ?_
          refine va_get (D := D) (ci := 9) (v := .ref (a 20)) (C := RX7) (T := TX7) (N := 9) hx hb hts inX7 hown hK hP 0 wg_S rfl 4 (by decide) k42 (fun _ h9 => h9) rfl dX7_freeLockedJibs_33 ?_
          refine lv_iconst (v := zI 2) hx hb dX7_freeLockedJibs_36 rfl ?_
          refine lv_iload_n hx hb dX7_freeLockedJibs_37 rfl (lv_at hl 1 rfl) ?_
          refine lv_aload_n hx hb dX7_freeLockedJibs_38 rfl (lv_at hl 0 rfl) ?_
          refine va_get (D := D) (ci := 9) (v := .ref (a 1)) (C := RX7) (T := TX7) (N := 9) hx hb hts inX7 hown hK hP 0 wg_S rfl 0 (by decide) k10 (fun _ h9 => h9) rfl dX7_freeLockedJibs_39 ?_
          refine va_get (D := D) (ci := 7) (v := .int (zI (τ 1 5))) (C := RX5) (T := TX5) (N := 7) hx hb hts inX5 hown hK hP 1 wg_W rfl 5 (by decide) k104 (fun _ h9 => h9) (by show some (Value.int (zI (σp29 1 5))) = some (Value.int (zI (τ 1 5))); rw [eσp29, g_ne (by omega)]) dX7_freeLockedJibs_42 ?_
          refine lv_iconst (v := zI 0) hx hb dX7_freeLockedJibs_45 rfl ?_
          refine lv_iconst (v := zI 0) hx hb dX7_freeLockedJibs_46 rfl ?_
          refine lv_iconst (v := zI (-1)) hx hb dX7_freeLockedJibs_47 rfl ?_
          refine va_callv (va_runV (As := [.int (zI (2)), .int (zI ((i : Int))), .int (zI (τ 1 5)), .int (zI (0)), .int (zI (0)), .int (zI (-1))]) (rest := []) ⟨hx, hb, hml, hown, hts⟩ (c_X1_write l D cy a q σp29 H.size (2) (by omega) ((i : Int)) (by omega) (τ 1 5) (by omega) (0) (by omega) (0) (by omega) (-1) (by omega) (by omega) t0 0 hO1) (cwV 6 hts gX7_freeLockedJibs_X1_write rfl rfl rfl (by decide +kernel) ⟨Nat.le_of_ble_eq_true rfl, Nat.le_of_ble_eq_true rfl⟩) ⟨Wd_blind, va_recv hK hP (ci := 3) (q0 := 20) rfl wg_L, fun U hU hW => ⟨rfl, by rw [hU], Wd_mk (wP_left hP) hE0 hS hU hW⟩⟩ rfl rfl hl.1 rfl (lv_room (Nat.le_of_ble_eq_true rfl)) dX7_freeLockedJibs_48 ⟨(show 0 + 0 ≤ 0 by omega), (show 0 + 0 ≤ 0 by omega)⟩) hS (fun _ _ h => wF_mono hS.1 _ h) (fun _ h => wF_mono hS.1 _ h) (fun u9 t9 H locs ht hvm hw hB hz hk hS1 => ?_)
          obtain ⟨qc48, σc48⟩ := u9
          have hB1 : va_P D vwCl (wld cy a qc48 σc48) t9.heap := hB.1
          rw [ht] at hB1
          obtain ⟨hP, hD⟩ := wd_join hP hD hk hB1
          try dsimp only at hw
          have hS := hS1
          have hw48 := hw
          obtain ⟨hq9, hO2, hWr⟩ := hw48
          obtain rfl : q = qc48 := hq9.symm
          have hE2 : Ev σ σc48 := hE1.tr hWr.ev
          have hk2 : ∀ k, k < 20 → k ≠ 3 + i → σc48 k = τ k := fun k h1 h2 => by rw [hWr.1 k h1, hk9 k h2]
          have hl2 : σc48 (3 + i) 5 = 0 := by rw [hWr.1 _ (by omega)]; exact hl9
          refine lv_iinc (v := zI ((i : Int) + 1)) (lv' := [(1, .int (zI ((i : Int) + 1))), (0, .ref (a 0))]) hx hb dX7_freeLockedJibs_51 hl (k := 1) rfl (zI_add _ _) (by decide) rfl (fun ls hl => ?_)
          refine lv_goto (tgt := 2) hx hb dX7_freeLockedJibs_54 (by decide) ?_
          exact ih2 (i + 1) σc48 H locs ls (by omega) (by rw [hk2 0 (by omega) (by omega)]; omega) hO2 hE2 (by rw [hk2 1 (by omega) (by omega)]; exact hr1) (by rw [hk2 0 (by omega) (by omega)]; exact hr0) (lt_s (fun j h => by rw [hk2 (3 + j) (by omega) (by omega)]; exact hfr j h) hl2)  hP hD hS (by have h9 := lv_sub hl [1, 0] rfl; exact h9)
  exact loop2 (4) 0 σ s.heap [] ls (by omega) (by omega) hO (Ev.rf σ) rfl rfl (fun _ h => absurd h (Nat.not_lt_zero _))  hP hD hS (lv_sub hl [1, 0] rfl)

set_option maxHeartbeats 4000000 in
set_option maxRecDepth 100000 in
/-- X7_turnFreeJibs -/
theorem c_X7_turnFreeJibs (l : Launch) (D : va_G) (cy : Nat → ClassId) (a q : Nat → Nat) (σ : Nat → Nat → Int) (sz : Nat) (t0 : Int) (wi : Int) (hO : okA t0 wi q σ) : Met l yX7_turnFreeJibs wsX7_turnFreeJibs ({ frames := 10, cells := 0, slots := 0, locals := 400 }) (va_Pc [.ref (a 0)] (fun U => U.heap.size = sz ∧ Wd D cy a q σ U)) (va_Qv (fun (u : ((Nat → Nat) × (Nat → Nat → Int))) => u.1 = q ∧ okA t0 wi q u.2 ∧ Ev σ u.2 ∧ u.2 1 = σ 1) (fun (u : ((Nat → Nat) × (Nat → Nat → Int))) t => Wd D cy a u.1 u.2 t) (wF a sz)) 0 0 (wF a sz) := by
  refine Met.ofW (cc := cX7_turnFreeJibs) (maxL := 2) (ret := none) (by decide) rfl ?_
  intro p e s m args below meth c s₁ B hml hpc0
  obtain ⟨rfl, hsz, hW0⟩ := hpc0
  have hx := B.exec
  have hb := B.bytes
  have hr := B.returns
  have hts := atoms_spec (ws := wsX7_turnFreeJibs) B.pre
  have hown : s.vm.findClass RX7 = some m.cls := findClass_of_methodNamed B.named
  have hlocks := B.notSynchronized
  subst hsz
  obtain ⟨hP00, hE0⟩ := id hW0
  obtain ⟨hK, hinj, hU0, hN0, hstr, hnest⟩ := id hE0
  have hP : va_P D vwCl (wld cy a q σ ++ []) s.heap := by rw [List.append_nil]; exact hP00
  have hD : va_D (wF a s.heap.size) (wld cy a q σ ++ []) := wD_of hinj
  have hA : ∀ x : Nat, s.heap.size ≤ x → wF a s.heap.size x := fun _ h => Or.inr h
  have hS : va_S (wF a s.heap.size) s.heap s.heap [] := va_S.rf
  have hk0 : ∀ x : Nat, x < s.heap.size → s.heap[x]? = s.heap[x]? := fun _ _ => rfl
  have hl := lv_entry ([.ref (a 0)]) (n := 2) (Nat.le_of_ble_eq_true rfl)
  rw [lg_entry_eq]
  generalize (lg_sl ([.ref (a 0)]) ++ List.replicate (2 - (lg_sl ([.ref (a 0)])).length) Slot.unset).toArray = ls at hl ⊢
  have hl : lv_has ls 2 [(0, .ref (a 0))] := hl
  have k10 := hts (.fieldLink RX7 10 "Slewfree" "weather" "LSlewfree$Weather;") (by decide +kernel)
  have k18 := hts (.fieldLink RX7 18 "Slewfree" "cranes" "[LSlewfree$Crane;") (by decide +kernel)
  have k57 := hts (.fieldLink RX7 57 "Slewfree" "craneCount" "I") (by decide +kernel)
  have k79 := hts (.fieldLink RX7 79 "Slewfree$Crane" "isLocked" "Z") (by decide +kernel)
  have k167 := hts (.fieldLink RX7 167 "Slewfree$Weather" "direction" "I") (by decide +kernel)
  have k207 := hts (.fieldLink RX7 207 "Slewfree$Crane" "angle" "I") (by decide +kernel)
  have inX0 : ∀ w ∈ u_ws RX0 TX0 12, w ∈ wsX7_turnFreeJibs := by decide +kernel
  have inX5 : ∀ w ∈ u_ws RX5 TX5 7, w ∈ wsX7_turnFreeJibs := by decide +kernel
  have inX7 : ∀ w ∈ u_ws RX7 TX7 9, w ∈ wsX7_turnFreeJibs := by decide +kernel
  obtain ⟨oS, oW, oC, oZ, oM, oL, oP, oQ, oH⟩ := id hO
  unfold okS at oS; unfold okW at oW; unfold okL at oL
  refine lv_iconst (v := zI 0) hx hb dX7_turnFreeJibs_0 rfl ?_
  refine lv_istore_n (lv' := [(1, .int (zI (0))), (0, .ref (a 0))]) hx hb dX7_turnFreeJibs_1 rfl hl (by decide) rfl (fun ls hl => ?_)
  have loop2 : ∀ (n : Nat) (i : Nat) (τ : Nat → Nat → Int) (H : Heap) (locs : List Loc) (ls : Array Slot), 3 - i < n → ((i : Int) ≤ τ 0 5) → (okA t0 wi q τ) → (Ev σ τ) → (τ 1 = σ 1) → (τ 0 = σ 0) → va_P D vwCl (wld cy a q τ ++ []) H → va_D (wF a s.heap.size) (wld cy a q τ ++ []) → va_S (wF a s.heap.size) s.heap H locs → lv_has ls 2 [(0, .ref (a 0)), (1, .int (zI ((i : Int))))] → W p l e (headSpec wsX7_turnFreeJibs ({ frames := 10, cells := 0, slots := 0, locals := 400 })).room s m ([.ref (a 0)] : List Value).toArray below meth c H locs (0) (0) (MQ below (va_Qv (fun (u : ((Nat → Nat) × (Nat → Nat → Int))) => u.1 = q ∧ okA t0 wi q u.2 ∧ Ev σ u.2 ∧ u.2 1 = σ 1) (fun (u : ((Nat → Nat) × (Nat → Nat → Int))) t => Wd D cy a u.1 u.2 t) (wF a s.heap.size)) ([.ref (a 0)] : List Value).toArray s 0 0 (wF a s.heap.size)) (F0 m 2 ls []) := by
    intro n
    induction n with
    | zero => intro i τ H locs ls h0; exact absurd h0 (Nat.not_lt_zero _)
    | succ n ih2 =>
      intro i τ H locs ls hms hi hO1 hE1 hr1 hr0 hP hD hS hl
      obtain ⟨oS1, oW1, oC1, oZ1, oM1, oL1, oP1, oQ1, oH1⟩ := id hO1
      unfold okS at oS1; unfold okW at oW1; unfold okL at oL1
      refine lv_iload_n hx hb dX7_turnFreeJibs_2 rfl (lv_at hl 1 rfl) ?_
      refine lv_aload_n hx hb dX7_turnFreeJibs_3 rfl (lv_at hl 0 rfl) ?_
      refine va_get (D := D) (ci := 9) (v := .int (zI (τ 0 5))) (C := RX7) (T := TX7) (N := 9) hx hb hts inX7 hown hK hP 0 wg_S rfl 5 (by decide) k57 (fun _ h9 => h9) rfl dX7_turnFreeJibs_4 ?_
      refine z_icmp_ge (tgt := 56) hx hb dX7_turnFreeJibs_7 (by decide) (by omega) (by omega) (fun cd7 => ?_) (fun cd7 => ?_)
      · skip
        exact W.vret hx hb hr (fun t9 ht hW => ⟨⟨(q, τ), rfl, ⟨rfl, hO1, hE1, hr1⟩, Wd_mk (wP_left hP) hE0 hS ht hW⟩, hS.F ht⟩) hS.2.2 dX7_turnFreeJibs_56
      · skip
        have oCi := oC1 i (by omega); unfold okC at oCi
        refine lv_aload_n hx hb dX7_turnFreeJibs_10 rfl (lv_at hl 0 rfl) ?_
        refine va_get (D := D) (ci := 9) (v := .ref (a 2)) (C := RX7) (T := TX7) (N := 9) hx hb hts inX7 hown hK hP 0 wg_S rfl 1 (by decide) k18 (fun _ h9 => h9) rfl dX7_turnFreeJibs_11 ?_
        refine lv_iload_n hx hb dX7_turnFreeJibs_14 rfl (lv_at hl 1 rfl) ?_
        refine z_aald (i := i) hx hb hK hP 2 0 wg_AC rfl (by omega) (by omega) (by omega) dX7_turnFreeJibs_15 ?_
        refine va_get (D := D) (ci := 2) (v := .int (zI (τ (3 + i) 5))) (C := RX0) (T := TX0) (N := 12) hx hb hts inX0 hown hK hP (3 + i) (wg_C (i := i) (by first | assumption | omega)) rfl 5 (by decide) k79 (fun _ h9 => h9) rfl dX7_turnFreeJibs_16 ?_
        refine z_if_ne (tgt := 50) hx hb dX7_turnFreeJibs_19 (by decide) (by omega) (fun cd19 => ?_) (fun cd19 => ?_)
        · skip
          refine lv_iinc (v := zI ((i : Int) + 1)) (lv' := [(1, .int (zI ((i : Int) + 1))), (0, .ref (a 0))]) hx hb dX7_turnFreeJibs_50 hl (k := 1) rfl (zI_add _ _) (by decide) rfl (fun ls hl => ?_)
          refine lv_goto (tgt := 2) hx hb dX7_turnFreeJibs_53 (by decide) ?_
          exact ih2 (i + 1) τ H locs ls (by omega) (by omega) hO1 hE1 hr1 hr0  hP hD hS (by have h9 := lv_sub hl [1, 0] rfl; exact h9)
        · skip
          refine lv_aload_n hx hb dX7_turnFreeJibs_22 rfl (lv_at hl 0 rfl) ?_
          refine va_get (D := D) (ci := 9) (v := .ref (a 2)) (C := RX7) (T := TX7) (N := 9) hx hb hts inX7 hown hK hP 0 wg_S rfl 1 (by decide) k18 (fun _ h9 => h9) rfl dX7_turnFreeJibs_23 ?_
          refine lv_iload_n hx hb dX7_turnFreeJibs_26 rfl (lv_at hl 1 rfl) ?_
          refine z_aald (i := i) hx hb hK hP 2 0 wg_AC rfl (by omega) (by omega) (by omega) dX7_turnFreeJibs_27 ?_
          refine lv_aload_n hx hb dX7_turnFreeJibs_28 rfl (lv_at hl 0 rfl) ?_
          refine va_get (D := D) (ci := 9) (v := .ref (a 2)) (C := RX7) (T := TX7) (N := 9) hx hb hts inX7 hown hK hP 0 wg_S rfl 1 (by decide) k18 (fun _ h9 => h9) rfl dX7_turnFreeJibs_29 ?_
          refine lv_iload_n hx hb dX7_turnFreeJibs_32 rfl (lv_at hl 1 rfl) ?_
          refine z_aald (i := i) hx hb hK hP 2 0 wg_AC rfl (by omega) (by omega) (by omega) dX7_turnFreeJibs_33 ?_
          refine va_get (D := D) (ci := 2) (v := .int (zI (τ (3 + i) 3))) (C := RX0) (T := TX0) (N := 12) hx hb hts inX0 hown hK hP (3 + i) (wg_C (i := i) (by first | assumption | omega)) rfl 3 (by decide) k207 (fun _ h9 => h9) rfl dX7_turnFreeJibs_34 ?_
          refine lv_aload_n hx hb dX7_turnFreeJibs_37 rfl (lv_at hl 0 rfl) ?_
          refine va_get (D := D) (ci := 9) (v := .ref (a 1)) (C := RX7) (T := TX7) (N := 9) hx hb hts inX7 hown hK hP 0 wg_S rfl 0 (by decide) k10 (fun _ h9 => h9) rfl dX7_turnFreeJibs_38 ?_
          refine va_get (D := D) (ci := 7) (v := .int (zI (τ 1 4))) (C := RX5) (T := TX5) (N := 7) hx hb hts inX5 hown hK hP 1 wg_W rfl 4 (by decide) k167 (fun _ h9 => h9) rfl dX7_turnFreeJibs_41 ?_
          refine va_calli (va_runS (As := [.int (zI (τ (3 + i) 3)), .int (zI (τ 1 4))]) (rest := [.ref (a (3 + i))]) ⟨hx, hb, hml, hown, hts⟩ (c_X7_angleTowards l (τ (3 + i) 3) (by omega) (τ 1 4) (by omega) (by first | assumption | omega) (by first | assumption | omega)) (va_cwS 2 hts gX7_turnFreeJibs_X7_angleTowards rfl rfl rfl (by decide +kernel) ⟨Nat.le_of_ble_eq_true rfl, Nat.le_of_ble_eq_true rfl⟩) ⟨fun _ _ _ _ h => h, fun _ _ _ => ⟨rfl, trivial⟩⟩ rfl rfl hl.1 rfl (lv_room (Nat.le_of_ble_eq_true rfl)) dX7_turnFreeJibs_44 ⟨(show 0 + 0 ≤ 0 by omega), (show 0 + 0 ≤ 0 by omega)⟩) hS (fun _ _ h => h.elim) (fun _ h => h.elim) (fun rv44 u9 t9 H locs ht hvm hw hB hz hk hS1 => ?_)
          have hP := hP.kept (fun k x hk9 => hk x.1 ((hP k x hk9).lt) (fun h => h))
          have hS := hS1
          obtain rfl := hw
          refine w_put (ty := .int) (z := anF (τ (3 + i) 3) (τ 1 4)) (C := RX0) (T := TX0) (N := 12) hx hb hts inX0 tyX0 tyX0_ok nmX0 hown hK hP hD hS (3 + i) (by omega) (ci := 2) (fs := fC) (fun _ => wc_C (i := i) (by first | assumption | omega)) rfl 3 (by decide) k207 (fun _ h9 => h9) rfl (by decide +kernel) rfl rfl (Nat.le_of_ble_eq_true rfl) rfl dX7_turnFreeJibs_47 (fun H locs hP hD hS => ?_)
          obtain ⟨σp47, eσp47⟩ : ∃ z, z = up2 τ (3 + i) 3 (anF (τ (3 + i) 3) (τ 1 4)) := ⟨_, rfl⟩
          rw [← eσp47] at hP hD
          have han := anF_b (f := τ (3 + i) 3) (t := τ 1 4) (by omega)
          have hO2 : okA t0 wi q σp47 := by
            rw [eσp47]
            refine okA_C hO1 (by omega) ?_
            show τ (3 + i) 0 = i ∧ 0 ≤ (anF (τ (3 + i) 3) (τ 1 4) : Int) ∧ (anF (τ (3 + i) 3) (τ 1 4) : Int) ≤ 23 ∧ (τ (3 + i) 5 = 0 ∨ τ (3 + i) 5 = 1) ∧ (0 ≤ τ (3 + i) 9 ∧ τ (3 + i) 9 ≤ τ (3 + i) 8 ∧ τ (3 + i) 8 ≤ τ (3 + i) 7 ∧ τ (3 + i) 7 ≤ τ (3 + i) 6 ∧ τ (3 + i) 6 ≤ 99) ∧ 0 ≤ τ (3 + i) 10 ∧ τ (3 + i) 10 ≤ 1000 ∧ 0 ≤ τ (3 + i) 11 ∧ τ (3 + i) 11 ≤ t0 ∧ ((i : Int) < τ 0 5 → 10 ≤ τ (3 + i) 1 ∧ τ (3 + i) 1 ≤ 40 ∧ (τ (3 + i) 2 = 2 ∨ τ (3 + i) 2 = 4) ∧ 10 ≤ τ (3 + i) 4 ∧ τ (3 + i) 4 ≤ τ (3 + i) 1 ∧ (12 < wi → τ (3 + i) 5 = 0))
            omega
          have hE2 : Ev σ σp47 := hE1.tr (by rw [eσp47]; exact Ev_C (by omega) (Int.le_refl _))
          have hk2 : ∀ k, k ≠ 3 + i → σp47 k = τ k := fun k hk => by rw [eσp47, up2_n hk]
          refine lv_iinc (v := zI ((i : Int) + 1)) (lv' := [(1, .int (zI ((i : Int) + 1))), (0, .ref (a 0))]) hx hb dX7_turnFreeJibs_50 hl (k := 1) rfl (zI_add _ _) (by decide) rfl (fun ls hl => ?_)
          refine lv_goto (tgt := 2) hx hb dX7_turnFreeJibs_53 (by decide) ?_
          exact ih2 (i + 1) σp47 H locs ls (by omega) (by rw [hk2 0 (by omega)]; omega) hO2 hE2 (by rw [hk2 1 (by omega)]; exact hr1) (by rw [hk2 0 (by omega)]; exact hr0)  hP hD hS (by have h9 := lv_sub hl [1, 0] rfl; exact h9)
  exact loop2 (4) 0 σ s.heap [] ls (by omega) (by omega) hO (Ev.rf σ) rfl rfl  hP hD hS (lv_sub hl [1, 0] rfl)

set_option maxRecDepth 100000 in
theorem vt54_X7_pass : ∀ w ∈ (vx_atS RX7 54 "java/lang/IllegalArgumentException" ["java/lang/RuntimeException", "java/lang/Exception"]).filter goodWord, w ∈ wsX7_pass := by decide +kernel
set_option maxRecDepth 100000 in
theorem vt65_X7_pass : ∀ w ∈ (vx_atS RX7 65 "java/lang/IllegalStateException" ["java/lang/RuntimeException", "java/lang/Exception"]).filter goodWord, w ∈ wsX7_pass := by decide +kernel
set_option maxHeartbeats 4000000 in
set_option maxRecDepth 100000 in
/-- X7_pass -/
theorem c_X7_pass (l : Launch) (hlT : l.stackTraces = false) (D : va_G) (cy : Nat → ClassId) (a q : Nat → Nat) (σ : Nat → Nat → Int) (sz : Nat) (mi : Int) (hmi : rg mi) (t0 : Int) (hO : okA t0 (σ 1 5) q σ) : vx_Met l yX7_pass wsX7_pass ({ frames := 11, cells := 1, slots := 6, locals := 500 }) (va_Pc [.ref (a 0), .int (zI (mi))] (fun U => U.heap.size = sz ∧ Wd D cy a q σ U)) (va_Qi (fun (r : Int32) (u : ((Nat → Nat) × (Nat → Nat → Int))) => ∃ z : Int, r = zI z ∧ (u.1 = q ∧ okA t0 (u.2 1 5) q u.2 ∧ Ev σ u.2)) (fun (u : ((Nat → Nat) × (Nat → Nat → Int))) t => Wd D cy a u.1 u.2 t) (wF a sz)) (vx_X (fun (_ : Unit) => True) (fun E _ _ => okE E) (fun _ => False)) 1 6 (wF a sz) := by
  refine vx_ofW (cc := cX7_pass) (maxL := 3) (ret := (some .int)) (by decide) rfl ?_
  intro p e s m args below meth c s₁ B hml hexc hpc0
  obtain ⟨rfl, hsz, hW0⟩ := hpc0
  have hx := B.exec
  have hb := B.bytes
  have hr := B.returns
  have hts := atoms_spec (ws := wsX7_pass) B.pre
  have hown : s.vm.findClass RX7 = some m.cls := findClass_of_methodNamed B.named
  have hlocks := B.notSynchronized
  subst hsz
  obtain ⟨hP00, hE0⟩ := id hW0
  obtain ⟨hK, hinj, hU0, hN0, hstr, hnest⟩ := id hE0
  have hP : va_P D vwCl (wld cy a q σ ++ []) s.heap := by rw [List.append_nil]; exact hP00
  have hD : va_D (wF a s.heap.size) (wld cy a q σ ++ []) := wD_of hinj
  have hA : ∀ x : Nat, s.heap.size ≤ x → wF a s.heap.size x := fun _ h => Or.inr h
  have hS : va_S (wF a s.heap.size) s.heap s.heap [] := va_S.rf
  have hk0 : ∀ x : Nat, x < s.heap.size → s.heap[x]? = s.heap[x]? := fun _ _ => rfl
  have hl := lv_entry ([.ref (a 0), .int (zI (mi))]) (n := 3) (Nat.le_of_ble_eq_true rfl)
  rw [lg_entry_eq]
  generalize (lg_sl ([.ref (a 0), .int (zI (mi))]) ++ List.replicate (3 - (lg_sl ([.ref (a 0), .int (zI (mi))])).length) Slot.unset).toArray = ls at hl ⊢
  have hl : lv_has ls 3 [(0, .ref (a 0)), (1, .int (zI (mi)))] := hl
  have k10 := hts (.fieldLink RX7 10 "Slewfree" "weather" "LSlewfree$Weather;") (by decide +kernel)
  have k104 := hts (.fieldLink RX7 104 "Slewfree$Weather" "wind" "I") (by decide +kernel)
  have k172 := hts (.fieldLink RX7 172 "Slewfree$Weather" "minute" "I") (by decide +kernel)
  have inX5 : ∀ w ∈ u_ws RX5 TX5 7, w ∈ wsX7_pass := by decide +kernel
  have inX7 : ∀ w ∈ u_ws RX7 TX7 9, w ∈ wsX7_pass := by decide +kernel
  obtain ⟨oS, oW, oC, oZ, oM, oL, oP, oQ, oH⟩ := id hO
  unfold okS at oS; unfold okW at oW; unfold okL at oL
  refine lv_iload_n hx hb dX7_pass_0 rfl (lv_at hl 1 rfl) ?_
  refine lv_iconst (v := zI 1) hx hb dX7_pass_1 rfl ?_
  refine lv_sipush (v := zI 300) hx hb dX7_pass_2 (by decide +kernel) ?_
  refine va_calli (va_runS (As := [.int (zI (mi)), .int (zI (1)), .int (zI (300))]) (rest := []) ⟨hx, hb, hml, hown, hts⟩ (c_X7_isOutside l (mi) (by omega) (1) (by omega) (300) (by omega)) (va_cwS 3 hts gX7_pass_X7_isOutside rfl rfl rfl (by decide +kernel) ⟨Nat.le_of_ble_eq_true rfl, Nat.le_of_ble_eq_true rfl⟩) ⟨fun _ _ _ _ h => h, fun _ _ _ => ⟨rfl, trivial⟩⟩ rfl rfl hl.1 rfl (lv_room (Nat.le_of_ble_eq_true rfl)) dX7_pass_5 ⟨(show 0 + 0 ≤ 1 by omega), (show 0 + 0 ≤ 6 by omega)⟩) hS (fun _ _ h => h.elim) (fun _ h => h.elim) (fun rv5 u9 t9 H locs ht hvm hw hB hz hk hS1 => ?_)
  have hP := hP.kept (fun k x hk9 => hk x.1 ((hP k x hk9).lt) (fun h => h))
  have hk0 : ∀ x : Nat, x < s.heap.size → H[x]? = s.heap[x]? := fun x h9 => (hk x (Nat.lt_of_lt_of_le h9 hS.1) (fun h => h)).trans (hk0 x h9)
  have hS := hS1
  rcases hw with ⟨rfl, bd5⟩ | ⟨rfl, bd5⟩
  · skip
    refine z_if_eq (tgt := 21) hx hb dX7_pass_8 (by decide) (by decide) (fun cd8 => absurd cd8 (by decide)) (fun _ => ?_)
    obtain ⟨sa9, hsa9⟩ := hstr (170, "minutes are 1 to 300") (by decide)
    exact vx_throwS (names := ["java/lang/RuntimeException", "java/lang/Exception"]) (sa := sa9) hx hb hlT hown (by decide +kernel) (by decide +kernel) (hts (.classLink RX7 50 "java/lang/IllegalArgumentException") (by decide +kernel)) (hts (.initialized "java/lang/IllegalArgumentException") (by decide +kernel)) hsa9 (vx_hat (fun w h => hts w (vt54_X7_pass w h)) vf54 hnest.2.2.1.bad) vg54 hU0 hN0 hS (by rw [hml]; exact hl.1) dX7_pass_11 dX7_pass_14 dX7_pass_15 dX7_pass_17 dX7_pass_20 (fun x h => (hexc x h).elim) (Nat.le_of_ble_eq_true rfl) (Nat.le_of_ble_eq_true rfl) (show 0 + 0 + 1 ≤ 1 by omega) (show 0 + 0 + 6 ≤ 6 by omega) hlocks (fun t9 hvm9 hz9 hk9 => ⟨(), trivial, okE_A, Nat.le_trans hS.1 hz9, fun x h9 _ => (hk9 x (Nat.lt_of_lt_of_le h9 hS.1)).trans (hk0 x h9)⟩) hS.2.2 (by omega) (by omega)
  · skip
    refine z_if_eq (tgt := 21) hx hb dX7_pass_8 (by decide) (by decide) (fun _ => ?_) (fun cd8 => absurd cd8 (by decide))
    refine lv_aload_n hx hb dX7_pass_21 rfl (lv_at hl 0 rfl) ?_
    refine va_get (D := D) (ci := 9) (v := .ref (a 1)) (C := RX7) (T := TX7) (N := 9) hx hb hts inX7 hown hK hP 0 wg_S rfl 0 (by decide) k10 (fun _ h9 => h9) rfl dX7_pass_22 ?_
    refine va_get (D := D) (ci := 7) (v := .int (zI (σ 1 0))) (C := RX5) (T := TX5) (N := 7) hx hb hts inX5 hown hK hP 1 wg_W rfl 0 (by decide) k172 (fun _ h9 => h9) rfl dX7_pass_25 ?_
    refine lv_iload_n hx hb dX7_pass_28 rfl (lv_at hl 1 rfl) ?_
    refine z_iadd hx hb dX7_pass_29 ?_
    refine lv_sipush (v := zI 9999) hx hb dX7_pass_30 (by decide +kernel) ?_
    refine z_icmp_le (tgt := 46) hx hb dX7_pass_33 (by decide) (by omega) (by omega) (fun cd33 => ?_) (fun cd33 => ?_)
    · skip
      refine lv_iconst (v := zI 0) hx hb dX7_pass_46 rfl ?_
      refine lv_istore_n (lv' := [(2, .int (zI (0))), (0, .ref (a 0)), (1, .int (zI (mi)))]) hx hb dX7_pass_47 rfl hl (by decide) rfl (fun ls hl => ?_)
      have loop48 : ∀ (n : Nat) (i : Nat) (τ : Nat → Nat → Int) (H : Heap) (locs : List Loc) (ls : Array Slot), 300 - i < n → ((i : Int) ≤ mi) → (okA t0 (τ 1 5) q τ) → (Ev σ τ) → (τ 1 0 = σ 1 0 + i) → va_P D vwCl (wld cy a q τ ++ []) H → va_D (wF a s.heap.size) (wld cy a q τ ++ []) → va_S (wF a s.heap.size) s.heap H locs → lv_has ls 3 [(0, .ref (a 0)), (1, .int (zI (mi))), (2, .int (zI ((i : Int))))] → W p l e (headSpec wsX7_pass ({ frames := 11, cells := 1, slots := 6, locals := 500 })).room s m ([.ref (a 0), .int (zI (mi))] : List Value).toArray below meth c H locs (0 + 0) (0 + 0) (vx_MQ below (va_Qi (fun (r : Int32) (u : ((Nat → Nat) × (Nat → Nat → Int))) => ∃ z : Int, r = zI z ∧ (u.1 = q ∧ okA t0 (u.2 1 5) q u.2 ∧ Ev σ u.2)) (fun (u : ((Nat → Nat) × (Nat → Nat → Int))) t => Wd D cy a u.1 u.2 t) (wF a s.heap.size)) (vx_X (fun (_ : Unit) => True) (fun E _ _ => okE E) (fun _ => False)) ([.ref (a 0), .int (zI (mi))] : List Value).toArray s 1 6 (wF a s.heap.size)) (F0 m 48 ls []) := by
        intro n
        induction n with
        | zero => intro i τ H locs ls h0; exact absurd h0 (Nat.not_lt_zero _)
        | succ n ih48 =>
          intro i τ H locs ls hms hi hO1 hE1 hmm hP hD hS hl
          obtain ⟨oS1, oW1, oC1, oZ1, oM1, oL1, oP1, oQ1, oH1⟩ := id hO1
          unfold okS at oS1; unfold okW at oW1; unfold okL at oL1
          refine lv_iload_n hx hb dX7_pass_48 rfl (lv_at hl 2 rfl) ?_
          refine lv_iload_n hx hb dX7_pass_49 rfl (lv_at hl 1 rfl) ?_
          refine z_icmp_ge (tgt := 95) hx hb dX7_pass_50 (by decide) (by omega) (by omega) (fun cd50 => ?_) (fun cd50 => ?_)
          · skip
            refine lv_aload_n hx hb dX7_pass_95 rfl (lv_at hl 0 rfl) ?_
            refine va_get (D := D) (ci := 9) (v := .ref (a 1)) (C := RX7) (T := TX7) (N := 9) hx hb hts inX7 hown hK hP 0 wg_S rfl 0 (by decide) k10 (fun _ h9 => h9) rfl dX7_pass_96 ?_
            refine va_get (D := D) (ci := 7) (v := .int (zI (τ 1 5))) (C := RX5) (T := TX5) (N := 7) hx hb hts inX5 hown hK hP 1 wg_W rfl 5 (by decide) k104 (fun _ h9 => h9) rfl dX7_pass_99 ?_
            refine vx_ret ?_
            refine W.widen (k := 1) (n := 6) (by omega) (by omega) ?_
            exact W.iret (v := zI (τ 1 5)) hx hb hr (fun t9 ht hW => ⟨⟨_, (q, τ), rfl, ⟨_, rfl, ⟨rfl, hO1, hE1⟩⟩, Wd_mk (wP_left hP) hE0 hS ht hW⟩, hS.F ht⟩) hS.2.2 dX7_pass_102
          · skip
            refine lv_aload_n hx hb dX7_pass_53 rfl (lv_at hl 0 rfl) ?_
            refine va_get (D := D) (ci := 9) (v := .ref (a 1)) (C := RX7) (T := TX7) (N := 9) hx hb hts inX7 hown hK hP 0 wg_S rfl 0 (by decide) k10 (fun _ h9 => h9) rfl dX7_pass_54 ?_
            refine va_callv (va_runV (As := []) (rest := []) ⟨hx, hb, hml, hown, hts⟩ (c_X5_goOnByAMinute l D cy a q τ H.size _ _ hO1 (by omega)) (cwV 0 hts gX7_pass_X5_goOnByAMinute rfl rfl rfl (by decide +kernel) ⟨Nat.le_of_ble_eq_true rfl, Nat.le_of_ble_eq_true rfl⟩) ⟨Wd_blind, va_recv hK hP (ci := 7) (q0 := 1) rfl wg_W, fun U hU hW => ⟨rfl, by rw [hU], Wd_mk (wP_left hP) hE0 hS hU hW⟩⟩ rfl rfl hl.1 rfl (lv_room (Nat.le_of_ble_eq_true rfl)) dX7_pass_57 ⟨(show 0 + 0 + 0 ≤ 1 by omega), (show 0 + 0 + 0 ≤ 6 by omega)⟩) hS (fun _ _ h => wF_mono hS.1 _ h) (fun _ h => wF_mono hS.1 _ h) (fun u9 t9 H locs ht hvm hw hB hz hk hS1 => ?_)
            obtain ⟨qc57, σc57⟩ := u9
            have hB1 : va_P D vwCl (wld cy a qc57 σc57) t9.heap := hB.1
            rw [ht] at hB1
            obtain ⟨hP, hD⟩ := wd_join hP hD hk hB1
            try dsimp only at hw
            have hS := hS1
            have hw57 := hw
            obtain ⟨hq9, hO2, hE2, hm2, hk2⟩ := hw57
            obtain rfl : q = qc57 := hq9.symm
            obtain ⟨oS2, oW2, oC2, oZ2, oM2, oL2, oP2, oQ2, oH2⟩ := id hO2
            unfold okS at oS2; unfold okW at oW2; unfold okL at oL2
            refine lv_aload_n hx hb dX7_pass_60 rfl (lv_at hl 0 rfl) ?_
            refine va_get (D := D) (ci := 9) (v := .ref (a 1)) (C := RX7) (T := TX7) (N := 9) hx hb hts inX7 hown hK hP 0 wg_S rfl 0 (by decide) k10 (fun _ h9 => h9) rfl dX7_pass_61 ?_
            refine va_calli (va_runV (As := []) (rest := []) ⟨hx, hb, hml, hown, hts⟩ (c_X5_isStorm l D cy a q σc57 H.size (by omega)) (cwV 0 hts gX7_pass_X5_isStorm rfl rfl rfl (by decide +kernel) ⟨Nat.le_of_ble_eq_true rfl, Nat.le_of_ble_eq_true rfl⟩) ⟨Wd_blind, va_recv hK hP (ci := 7) (q0 := 1) rfl wg_W, fun U hU hW => ⟨rfl, by rw [hU], Wd_mk (wP_left hP) hE0 hS hU hW⟩⟩ rfl rfl hl.1 rfl (lv_room (Nat.le_of_ble_eq_true rfl)) dX7_pass_64 ⟨(show 0 + 0 + 0 + 0 ≤ 1 by omega), (show 0 + 0 + 0 + 0 ≤ 6 by omega)⟩) hS (fun _ _ h => h.elim) (fun _ h => wF_mono hS.1 _ h) (fun rv64 u9 t9 H locs ht hvm hw hB hz hk hS1 => ?_)
            have hP := hP.kept (fun k x hk9 => hk x.1 ((hP k x hk9).lt) (fun h => h))
            have hS := hS1
            rcases hw with ⟨rfl, bd64⟩ | ⟨rfl, bd64⟩
            · skip
              refine z_if_eq (tgt := 74) hx hb dX7_pass_67 (by decide) (by decide) (fun cd67 => absurd cd67 (by decide)) (fun _ => ?_)
              refine lv_aload_n hx hb dX7_pass_70 rfl (lv_at hl 0 rfl) ?_
              refine va_callv (va_runV (As := []) (rest := []) ⟨hx, hb, hml, hown, hts⟩ (c_X7_freeLockedJibs l D cy a q σc57 H.size _ hO2) (cwV 0 hts gX7_pass_X7_freeLockedJibs rfl rfl rfl (by decide +kernel) ⟨Nat.le_of_ble_eq_true rfl, Nat.le_of_ble_eq_true rfl⟩) ⟨Wd_blind, va_recv hK hP (ci := 9) (q0 := 0) rfl wg_S, fun U hU hW => ⟨rfl, by rw [hU], Wd_mk (wP_left hP) hE0 hS hU hW⟩⟩ rfl rfl hl.1 rfl (lv_room (Nat.le_of_ble_eq_true rfl)) dX7_pass_71 ⟨(show 0 + 0 + 0 + 0 + 0 ≤ 1 by omega), (show 0 + 0 + 0 + 0 + 0 ≤ 6 by omega)⟩) hS (fun _ _ h => wF_mono hS.1 _ h) (fun _ h => wF_mono hS.1 _ h) (fun u9 t9 H locs ht hvm hw hB hz hk hS1 => ?_)
              obtain ⟨qc71, σc71⟩ := u9
              have hB1 : va_P D vwCl (wld cy a qc71 σc71) t9.heap := hB.1
              rw [ht] at hB1
              obtain ⟨hP, hD⟩ := wd_join hP hD hk hB1
              try dsimp only at hw
              have hS := hS1
              have hw71 := hw
              obtain ⟨hq9, hO3, hE3, hr3⟩ := hw71
              obtain rfl : q = qc71 := hq9.symm
              have hE2 := hE2.tr hE3
              have hm2 : σc71 1 0 = τ 1 0 + 1 := by rw [hr3]; exact hm2
              have oW2 := oW2
              rw [← hr3] at oW2
              have hO2 := hO3
              refine lv_aload_n hx hb dX7_pass_74 rfl (lv_at hl 0 rfl) ?_
              refine va_get (D := D) (ci := 9) (v := .ref (a 1)) (C := RX7) (T := TX7) (N := 9) hx hb hts inX7 hown hK hP 0 wg_S rfl 0 (by decide) k10 (fun _ h9 => h9) rfl dX7_pass_75 ?_
              refine va_get (D := D) (ci := 7) (v := .int (zI (σc71 1 5))) (C := RX5) (T := TX5) (N := 7) hx hb hts inX5 hown hK hP 1 wg_W rfl 5 (by decide) k104 (fun _ h9 => h9) rfl dX7_pass_78 ?_
              refine lv_iconst (v := zI 3) hx hb dX7_pass_81 rfl ?_
              refine z_icmp_lt (tgt := 89) hx hb dX7_pass_82 (by decide) (by omega) (by omega) (fun cd82 => ?_) (fun cd82 => ?_)
              · skip
                refine lv_iinc (v := zI ((i : Int) + 1)) (lv' := [(2, .int (zI ((i : Int) + 1))), (0, .ref (a 0)), (1, .int (zI (mi)))]) hx hb dX7_pass_89 hl (k := 2) rfl (zI_add _ _) (by decide) rfl (fun ls hl => ?_)
                refine lv_goto (tgt := 48) hx hb dX7_pass_92 (by decide) ?_
                exact ih48 (i + 1) σc71 H locs ls (by omega) (by omega) hO2 (hE1.tr hE2) (by omega)  hP hD hS (by have h9 := lv_sub hl [1, 2, 0] rfl; exact h9)
              · skip
                refine lv_aload_n hx hb dX7_pass_85 rfl (lv_at hl 0 rfl) ?_
                refine va_callv (va_runV (As := []) (rest := []) ⟨hx, hb, hml, hown, hts⟩ (c_X7_turnFreeJibs l D cy a q σc71 H.size _ _ hO2) (cwV 0 hts gX7_pass_X7_turnFreeJibs rfl rfl rfl (by decide +kernel) ⟨Nat.le_of_ble_eq_true rfl, Nat.le_of_ble_eq_true rfl⟩) ⟨Wd_blind, va_recv hK hP (ci := 9) (q0 := 0) rfl wg_S, fun U hU hW => ⟨rfl, by rw [hU], Wd_mk (wP_left hP) hE0 hS hU hW⟩⟩ rfl rfl hl.1 rfl (lv_room (Nat.le_of_ble_eq_true rfl)) dX7_pass_86 ⟨(show 0 + 0 + 0 + 0 + 0 + 0 ≤ 1 by omega), (show 0 + 0 + 0 + 0 + 0 + 0 ≤ 6 by omega)⟩) hS (fun _ _ h => wF_mono hS.1 _ h) (fun _ h => wF_mono hS.1 _ h) (fun u9 t9 H locs ht hvm hw hB hz hk hS1 => ?_)
                obtain ⟨qc86, σc86⟩ := u9
                have hB1 : va_P D vwCl (wld cy a qc86 σc86) t9.heap := hB.1
                rw [ht] at hB1
                obtain ⟨hP, hD⟩ := wd_join hP hD hk hB1
                try dsimp only at hw
                have hS := hS1
                have hw86 := hw
                obtain ⟨hq9, hO3, hE3, hr3⟩ := hw86
                obtain rfl : q = qc86 := hq9.symm
                have hE2 := hE2.tr hE3
                have hm2 : σc86 1 0 = τ 1 0 + 1 := by rw [hr3]; exact hm2
                have hO2 := hO3
                rw [← hr3] at hO2
                refine lv_iinc (v := zI ((i : Int) + 1)) (lv' := [(2, .int (zI ((i : Int) + 1))), (0, .ref (a 0)), (1, .int (zI (mi)))]) hx hb dX7_pass_89 hl (k := 2) rfl (zI_add _ _) (by decide) rfl (fun ls hl => ?_)
                refine lv_goto (tgt := 48) hx hb dX7_pass_92 (by decide) ?_
                exact ih48 (i + 1) σc86 H locs ls (by omega) (by omega) hO2 (hE1.tr hE2) (by omega)  hP hD hS (by have h9 := lv_sub hl [1, 2, 0] rfl; exact h9)
            · skip
              refine z_if_eq (tgt := 74) hx hb dX7_pass_67 (by decide) (by decide) (fun _ => ?_) (fun cd67 => absurd cd67 (by decide))
              have hO2 : okA t0 (σc57 1 5) q σc57 := okA_wi hO2 (fun _ _ _ h => by omega)
              refine lv_aload_n hx hb dX7_pass_74 rfl (lv_at hl 0 rfl) ?_
              refine va_get (D := D) (ci := 9) (v := .ref (a 1)) (C := RX7) (T := TX7) (N := 9) hx hb hts inX7 hown hK hP 0 wg_S rfl 0 (by decide) k10 (fun _ h9 => h9) rfl dX7_pass_75 ?_
              refine va_get (D := D) (ci := 7) (v := .int (zI (σc57 1 5))) (C := RX5) (T := TX5) (N := 7) hx hb hts inX5 hown hK hP 1 wg_W rfl 5 (by decide) k104 (fun _ h9 => h9) rfl dX7_pass_78 ?_
              refine lv_iconst (v := zI 3) hx hb dX7_pass_81 rfl ?_
              refine z_icmp_lt (tgt := 89) hx hb dX7_pass_82 (by decide) (by omega) (by omega) (fun cd82 => ?_) (fun cd82 => ?_)
              · skip
                refine lv_iinc (v := zI ((i : Int) + 1)) (lv' := [(2, .int (zI ((i : Int) + 1))), (0, .ref (a 0)), (1, .int (zI (mi)))]) hx hb dX7_pass_89 hl (k := 2) rfl (zI_add _ _) (by decide) rfl (fun ls hl => ?_)
                refine lv_goto (tgt := 48) hx hb dX7_pass_92 (by decide) ?_
                exact ih48 (i + 1) σc57 H locs ls (by omega) (by omega) hO2 (hE1.tr hE2) (by omega)  hP hD hS (by have h9 := lv_sub hl [1, 2, 0] rfl; exact h9)
              · skip
                refine lv_aload_n hx hb dX7_pass_85 rfl (lv_at hl 0 rfl) ?_
                refine va_callv (va_runV (As := []) (rest := []) ⟨hx, hb, hml, hown, hts⟩ (c_X7_turnFreeJibs l D cy a q σc57 H.size _ _ hO2) (cwV 0 hts gX7_pass_X7_turnFreeJibs rfl rfl rfl (by decide +kernel) ⟨Nat.le_of_ble_eq_true rfl, Nat.le_of_ble_eq_true rfl⟩) ⟨Wd_blind, va_recv hK hP (ci := 9) (q0 := 0) rfl wg_S, fun U hU hW => ⟨rfl, by rw [hU], Wd_mk (wP_left hP) hE0 hS hU hW⟩⟩ rfl rfl hl.1 rfl (lv_room (Nat.le_of_ble_eq_true rfl)) dX7_pass_86 ⟨(show 0 + 0 + 0 + 0 + 0 ≤ 1 by omega), (show 0 + 0 + 0 + 0 + 0 ≤ 6 by omega)⟩) hS (fun _ _ h => wF_mono hS.1 _ h) (fun _ h => wF_mono hS.1 _ h) (fun u9 t9 H locs ht hvm hw hB hz hk hS1 => ?_)
                obtain ⟨qc86, σc86⟩ := u9
                have hB1 : va_P D vwCl (wld cy a qc86 σc86) t9.heap := hB.1
                rw [ht] at hB1
                obtain ⟨hP, hD⟩ := wd_join hP hD hk hB1
                try dsimp only at hw
                have hS := hS1
                have hw86 := hw
                obtain ⟨hq9, hO3, hE3, hr3⟩ := hw86
                obtain rfl : q = qc86 := hq9.symm
                have hE2 := hE2.tr hE3
                have hm2 : σc86 1 0 = τ 1 0 + 1 := by rw [hr3]; exact hm2
                have hO2 := hO3
                rw [← hr3] at hO2
                refine lv_iinc (v := zI ((i : Int) + 1)) (lv' := [(2, .int (zI ((i : Int) + 1))), (0, .ref (a 0)), (1, .int (zI (mi)))]) hx hb dX7_pass_89 hl (k := 2) rfl (zI_add _ _) (by decide) rfl (fun ls hl => ?_)
                refine lv_goto (tgt := 48) hx hb dX7_pass_92 (by decide) ?_
                exact ih48 (i + 1) σc86 H locs ls (by omega) (by omega) hO2 (hE1.tr hE2) (by omega)  hP hD hS (by have h9 := lv_sub hl [1, 2, 0] rfl; exact h9)
      exact loop48 (301) 0 σ H locs ls (by omega) (by omega) hO (Ev.rf σ) (by omega)  hP hD hS (lv_sub hl [1, 2, 0] rfl)
    · skip
      obtain ⟨sa9, hsa9⟩ := hstr (175, "minute would be above 9999") (by decide)
      exact vx_throwS (names := ["java/lang/RuntimeException", "java/lang/Exception"]) (sa := sa9) hx hb hlT hown (by decide +kernel) (by decide +kernel) (hts (.classLink RX7 61 "java/lang/IllegalStateException") (by decide +kernel)) (hts (.initialized "java/lang/IllegalStateException") (by decide +kernel)) hsa9 (vx_hat (fun w h => hts w (vt65_X7_pass w h)) vf65 hnest.2.2.2.1.bad) vg65 hU0 hN0 hS (by rw [hml]; exact hl.1) dX7_pass_36 dX7_pass_39 dX7_pass_40 dX7_pass_42 dX7_pass_45 (fun x h => (hexc x h).elim) (Nat.le_of_ble_eq_true rfl) (Nat.le_of_ble_eq_true rfl) (show 0 + 0 + 1 ≤ 1 by omega) (show 0 + 0 + 6 ≤ 6 by omega) hlocks (fun t9 hvm9 hz9 hk9 => ⟨(), trivial, okE_S, Nat.le_trans hS.1 hz9, fun x h9 _ => (hk9 x (Nat.lt_of_lt_of_le h9 hS.1)).trans (hk0 x h9)⟩) hS.2.2 (by omega) (by omega)
