set_option maxHeartbeats 1000000 in
set_option maxRecDepth 100000 in
/-- J5_init_d00df -/
theorem c_J5_init_d00df (l : Launch) (D : va_G) (J : jT) (A : Nat → Prop) (sz : Nat) (hA : ∀ y : Nat, sz ≤ y → A y) (ws : va_W) (x : Nat) (kx : Nat) (ex : ws[kx]? = some ((x, .inr (1, [.null, .int (zI (0)), .int (zI (0)), .int (zI (0))])) : Nat × va_E)) : Met l yJ5_init_d00df wsJ5_init_d00df ({ frames := 7, cells := 1, slots := 16, locals := 100 }) (va_Pc [.ref (x), .int (zI (16))] (fun U => U.heap.size = sz ∧ jW D J A ws U)) (va_Qv (fun (u : (Nat)) => True) (fun u t => va_P D vwCl ((ws ++ [((u, .inl (J.1, 16, .inl (fun _ => 0))) : Nat × va_E)]).set kx ((x, .inr (1, [.ref (u), .int (zI (0)), .int (zI (0)), .int (zI (0))])) : Nat × va_E)) t.heap ∧ va_D A ((ws ++ [((u, .inl (J.1, 16, .inl (fun _ => 0))) : Nat × va_E)]).set kx ((x, .inr (1, [.ref (u), .int (zI (0)), .int (zI (0)), .int (zI (0))])) : Nat × va_E))) A) 1 16 A := by
  refine Met.ofW (cc := cJ5_init_d00df) (maxL := 2) (ret := none) (by decide) rfl ?_
  intro p e s m args below meth c s₁ B hml hpc0
  obtain ⟨rfl, hsz, hP, hD, hZ⟩ := hpc0
  have hx := B.exec
  have hb := B.bytes
  have hr := B.returns
  have hts := atoms_spec (ws := wsJ5_init_d00df) B.pre
  have hown : s.vm.findClass RJ5 = some m.cls := findClass_of_methodNamed B.named
  have hlocks := B.notSynchronized
  have hin : meth.name = "<init>" := (name_of_methodNamed B.named B.method).1
  subst hsz
  have hK := hZ.1
  have hS : va_S A s.heap s.heap [] := va_S.rf
  have hk0 : ∀ x : Nat, x < s.heap.size → s.heap[x]? = s.heap[x]? := fun _ _ => rfl
  have hl := lv_entry ([.ref (x), .int (zI (16))]) (n := 2) (Nat.le_of_ble_eq_true rfl)
  rw [lg_entry_eq]
  generalize (lg_sl ([.ref (x), .int (zI (16))]) ++ List.replicate (2 - (lg_sl ([.ref (x), .int (zI (16))])).length) Slot.unset).toArray = ls at hl ⊢
  have hl : lv_has ls 2 [(0, .ref (x)), (1, .int (zI (16)))] := hl
  have k15 := hts (.fieldLink RJ5 15 "java/lang/AbstractStringBuilder" "value" "[B") (by decide +kernel)
  have k18 := hts (.fieldLink RJ5 18 "java/lang/String" "COMPACT_STRINGS" "Z") (by decide +kernel)
  have k22 := hts (.fieldLink RJ5 22 "java/lang/AbstractStringBuilder" "coder" "B") (by decide +kernel)
  have inJ4 : ∀ w ∈ u_ws RJ4 TJ4 4, w ∈ wsJ5_init_d00df := by decide +kernel
  refine lv_aload_n hx hb dJ5_init_d00df_0 rfl (lv_at hl 0 rfl) ?_
  refine W.objInit hx hb hown (hts (.methodLink RJ5 3 objectInit) (by decide +kernel)) (hts (.instanceMethod objectInit) (by decide +kernel)) (hts (.code objectInit ⟨#[0xb1]⟩ 1 none) (by decide +kernel)) rfl (by rw [hml]; exact hl.1) rfl dJ5_init_d00df_1 (Nat.le_of_ble_eq_true rfl) (Nat.le_of_ble_eq_true rfl) ?_
  refine W.eq (g2 := F0 m 4 ls []) rfl ?_
  refine va_gets hx hb hZ.2.1 hS hown k18 (fun _ h9 => h9) dJ5_init_d00df_4 ?_
  refine z_if_eq (tgt := 25) hx hb dJ5_init_d00df_7 (by decide) (by decide) (fun cd7 => absurd cd7 (by decide)) (fun _ => ?_)
  refine lv_aload_n hx hb dJ5_init_d00df_10 rfl (lv_at hl 0 rfl) ?_
  refine lv_iload_n hx hb dJ5_init_d00df_11 rfl (lv_at hl 1 rfl) ?_
  refine va_newa (atype := .byte) (n := zI (16)) (a0 := (16, .inl (fun _ => 0))) (N' := 16) (ty := .byte) hx hb (hts (.arrayClass .byte) (by decide +kernel)) rfl hK hP hD hS hA (fun _ => rfl) (zI_pos (by omega)) (by rw [zI_clamp (by omega) (by omega)]; omega) (by show _ * 1 ≤ _; omega) (show 0 + 1 ≤ 1 by omega) (show 0 + 16 ≤ 16 by omega) dJ5_init_d00df_12 (fun v9 cA9 H hK9 hP hD hS => ?_)
  obtain rfl : J.1 = cA9 := jK_same hK hK9
  obtain ⟨w12, ew12⟩ : ∃ z9 : va_W, z9 = ws ++ [((v9, .inl (J.1, 16, .inl (fun _ => 0))) : Nat × va_E)] := ⟨_, rfl⟩
  rw [← ew12] at hP hD
  have ex_w12 : w12[kx]? = some ((x, .inr (1, [.null, .int (zI (0)), .int (zI (0)), .int (zI (0))])) : Nat × va_E) := by rw [ew12]; exact js_old ex
  have ew_w12 : w12[ws.length]? = some ((v9, .inl (J.1, 16, .inl (fun _ => 0))) : Nat × va_E) := by rw [ew12]; exact js_new
  refine va_put (D := D) (ci := 1) (v := .ref (v9)) (ty := (.array .byte)) (C := RJ4) (T := TJ4) (N := 4) hx hb hts inJ4 tyJ4 tyJ4_ok nmJ4 hown hK hP hD hS kx ex_w12 rfl 0 (by decide) k15 (fun _ h9 => h9) rfl (by decide +kernel) rfl rfl (Nat.le_of_ble_eq_true rfl) dJ5_init_d00df_14 (fun H locs hP hD hS => ?_)
  obtain ⟨w14, ew14⟩ : ∃ z9 : va_W, z9 = w12.set kx ((x, .inr (1, [.ref (v9), .int (zI (0)), .int (zI (0)), .int (zI (0))])) : Nat × va_E) := ⟨_, rfl⟩
  have hP : va_P D vwCl (w12.set kx ((x, .inr (1, [.ref (v9), .int (zI (0)), .int (zI (0)), .int (zI (0))])) : Nat × va_E)) H := hP
  have hD : va_D A (w12.set kx ((x, .inr (1, [.ref (v9), .int (zI (0)), .int (zI (0)), .int (zI (0))])) : Nat × va_E)) := hD
  rw [← ew14] at hP hD
  have ex_w14 : w14[kx]? = some ((x, .inr (1, [.ref (v9), .int (zI (0)), .int (zI (0)), .int (zI (0))])) : Nat × va_E) := by rw [ew14]; exact js_eq ex_w12
  have ew_w14 : w14[ws.length]? = some ((v9, .inl (J.1, 16, .inl (fun _ => 0))) : Nat × va_E) := by rw [ew14]; exact js_ne ex_w12 ew_w12 (by intro h9; cases h9)
  refine lv_aload_n hx hb dJ5_init_d00df_17 rfl (lv_at hl 0 rfl) ?_
  refine lv_iconst (v := zI 0) hx hb dJ5_init_d00df_18 rfl ?_
  refine va_put (D := D) (ci := 1) (v := .int (zI (0))) (ty := .byte) (C := RJ4) (T := TJ4) (N := 4) hx hb hts inJ4 tyJ4 tyJ4_ok nmJ4 hown hK hP hD hS kx ex_w14 rfl 1 (by decide) k22 (fun _ h9 => h9) rfl (by decide +kernel) rfl rfl (Nat.le_of_ble_eq_true rfl) dJ5_init_d00df_19 (fun H locs hP hD hS => ?_)
  obtain ⟨w19, ew19⟩ : ∃ z9 : va_W, z9 = w14.set kx ((x, .inr (1, [.ref (v9), .int (zI (0)), .int (zI (0)), .int (zI (0))])) : Nat × va_E) := ⟨_, rfl⟩
  have hP : va_P D vwCl (w14.set kx ((x, .inr (1, [.ref (v9), .int (zI (0)), .int (zI (0)), .int (zI (0))])) : Nat × va_E)) H := hP
  have hD : va_D A (w14.set kx ((x, .inr (1, [.ref (v9), .int (zI (0)), .int (zI (0)), .int (zI (0))])) : Nat × va_E)) := hD
  rw [← ew19] at hP hD
  have ex_w19 : w19[kx]? = some ((x, .inr (1, [.ref (v9), .int (zI (0)), .int (zI (0)), .int (zI (0))])) : Nat × va_E) := by rw [ew19]; exact js_eq ex_w14
  have ew_w19 : w19[ws.length]? = some ((v9, .inl (J.1, 16, .inl (fun _ => 0))) : Nat × va_E) := by rw [ew19]; exact js_ne ex_w14 ew_w14 (by intro h9; cases h9)
  refine lv_goto (tgt := 38) hx hb dJ5_init_d00df_22 (by decide) ?_
  refine W.widen (k := 1) (n := 16) (by omega) (by omega) ?_
  have eW : w19 = ((ws ++ [((v9, .inl (J.1, 16, .inl (fun _ => 0))) : Nat × va_E)]).set kx ((x, .inr (1, [.ref (v9), .int (zI (0)), .int (zI (0)), .int (zI (0))])) : Nat × va_E)) := by rw [ew19, ew14, ew12]; exact List.set_set ..
  rw [eW] at hP hD
  exact W.vret hx hb hr (fun t9 ht hW => ⟨⟨v9, rfl, trivial, by show va_P D vwCl _ t9.heap; rw [ht]; exact hP, hD⟩, hS.F ht⟩) hS.2.2 dJ5_init_d00df_38

set_option maxHeartbeats 1000000 in
set_option maxRecDepth 100000 in
/-- J4_init_da8c8 -/
theorem c_J4_init_da8c8 (l : Launch) (D : va_G) (J : jT) (A : Nat → Prop) (sz : Nat) (hA : ∀ y : Nat, sz ≤ y → A y) (ws : va_W) (x : Nat) (kx : Nat) (ex : ws[kx]? = some ((x, .inr (1, [.null, .int (zI (0)), .int (zI (0)), .int (zI (0))])) : Nat × va_E)) : Met l yJ4_init_da8c8 wsJ4_init_da8c8 ({ frames := 8, cells := 1, slots := 16, locals := 200 }) (va_Pc [.ref (x)] (fun U => U.heap.size = sz ∧ jW D J A ws U)) (va_Qv (fun (u : (Nat)) => True) (fun u t => va_P D vwCl ((ws ++ [((u, .inl (J.1, 16, .inl (fun _ => 0))) : Nat × va_E)]).set kx ((x, .inr (1, [.ref (u), .int (zI (0)), .int (zI (0)), .int (zI (0))])) : Nat × va_E)) t.heap ∧ va_D A ((ws ++ [((u, .inl (J.1, 16, .inl (fun _ => 0))) : Nat × va_E)]).set kx ((x, .inr (1, [.ref (u), .int (zI (0)), .int (zI (0)), .int (zI (0))])) : Nat × va_E))) A) 1 16 A := by
  refine Met.ofW (cc := cJ4_init_da8c8) (maxL := 1) (ret := none) (by decide) rfl ?_
  intro p e s m args below meth c s₁ B hml hpc0
  obtain ⟨rfl, hsz, hP, hD, hZ⟩ := hpc0
  have hx := B.exec
  have hb := B.bytes
  have hr := B.returns
  have hts := atoms_spec (ws := wsJ4_init_da8c8) B.pre
  have hown : s.vm.findClass RJ4 = some m.cls := findClass_of_methodNamed B.named
  have hlocks := B.notSynchronized
  have hin : meth.name = "<init>" := (name_of_methodNamed B.named B.method).1
  subst hsz
  have hK := hZ.1
  have hS : va_S A s.heap s.heap [] := va_S.rf
  have hk0 : ∀ x : Nat, x < s.heap.size → s.heap[x]? = s.heap[x]? := fun _ _ => rfl
  have hl := lv_entry ([.ref (x)]) (n := 1) (Nat.le_of_ble_eq_true rfl)
  rw [lg_entry_eq]
  generalize (lg_sl ([.ref (x)]) ++ List.replicate (1 - (lg_sl ([.ref (x)])).length) Slot.unset).toArray = ls at hl ⊢
  have hl : lv_has ls 1 [(0, .ref (x))] := hl
  have inJ4 : ∀ w ∈ u_ws RJ4 TJ4 4, w ∈ wsJ4_init_da8c8 := by decide +kernel
  refine lv_aload_n hx hb dJ4_init_da8c8_0 rfl (lv_at hl 0 rfl) ?_
  refine lv_bipush (v := zI 16) hx hb dJ4_init_da8c8_1 (by decide +kernel) ?_
  refine va_callv (va_runI (As := [.int (zI (16))]) (rest := []) ⟨hx, hb, hml, hown, hts⟩ (c_J5_init_d00df l D J A s.heap.size (fun y h => hA y (Nat.le_trans hS.1 h)) ws x kx ex) (cwI 1 hts gJ4_init_da8c8_J5_init_d00df rfl rfl rfl (hts (.initialized RJ5) (by decide +kernel)) (hts (.methodLink RJ4 1 yJ5_init_d00df) (by decide +kernel)) (hts (.instanceMethod yJ5_init_d00df) (by decide +kernel)) rfl (by decide +kernel) ⟨Nat.le_of_ble_eq_true rfl, Nat.le_of_ble_eq_true rfl⟩) ⟨jW_blind, fun U hU hW => ⟨rfl, by rw [hU], jW_mk hP hD hZ hS hU hW⟩⟩ rfl rfl hl.1 rfl (lv_room (Nat.le_of_ble_eq_true rfl)) dJ4_init_da8c8_3 ⟨(show 0 + 1 ≤ 1 by omega), (show 0 + 16 ≤ 16 by omega)⟩) hS (fun _ _ h => h) (fun _ h => h) (fun u9 t9 H locs ht hvm hw hB hz hk hS1 => ?_)
  have eu9 := True.intro
  obtain ⟨u3, eu3⟩ : ∃ z, z = u9 := ⟨u9, rfl⟩
  rw [← eu3] at hB
  try rw [← eu3] at hw
  obtain ⟨hP9, hD9⟩ := hB
  rw [ht] at hP9
  have hP := hP9
  have hD := hD9
  have hS := hS1
  have hw3 := hw
  try dsimp only at hw3 hP hD
  obtain ⟨w3a, ew3a⟩ : ∃ z9 : va_W, z9 = ws ++ [((u3, .inl (J.1, 16, .inl (fun _ => 0))) : Nat × va_E)] := ⟨_, rfl⟩
  rw [← ew3a] at hP hD
  have ex_w3a : w3a[kx]? = some ((x, .inr (1, [.null, .int (zI (0)), .int (zI (0)), .int (zI (0))])) : Nat × va_E) := by rw [ew3a]; exact js_old ex
  have ev3_w3a : w3a[ws.length]? = some ((u3, .inl (J.1, 16, .inl (fun _ => 0))) : Nat × va_E) := by rw [ew3a]; exact js_new
  obtain ⟨w3b, ew3b⟩ : ∃ z9 : va_W, z9 = w3a.set kx ((x, .inr (1, [.ref (u3), .int (zI (0)), .int (zI (0)), .int (zI (0))])) : Nat × va_E) := ⟨_, rfl⟩
  rw [← ew3b] at hP hD
  have ex_w3b : w3b[kx]? = some ((x, .inr (1, [.ref (u3), .int (zI (0)), .int (zI (0)), .int (zI (0))])) : Nat × va_E) := by rw [ew3b]; exact js_eq ex_w3a
  have ev3_w3b : w3b[ws.length]? = some ((u3, .inl (J.1, 16, .inl (fun _ => 0))) : Nat × va_E) := by rw [ew3b]; exact js_ne ex_w3a ev3_w3a (by intro h9; cases h9)
  refine W.widen (k := 1) (n := 16) (by omega) (by omega) ?_
  have eW : w3b = ((ws ++ [((u3, .inl (J.1, 16, .inl (fun _ => 0))) : Nat × va_E)]).set kx ((x, .inr (1, [.ref (u3), .int (zI (0)), .int (zI (0)), .int (zI (0))])) : Nat × va_E)) := by rw [ew3b, ew3a]
  rw [eW] at hP hD
  exact W.vret hx hb hr (fun t9 ht hW => ⟨⟨u3, rfl, trivial, by show va_P D vwCl _ t9.heap; rw [ht]; exact hP, hD⟩, hS.F ht⟩) hS.2.2 dJ4_init_da8c8_6

set_option maxHeartbeats 1000000 in
set_option maxRecDepth 100000 in
/-- J7_copyOfRangeByte_39247 -/
theorem c_J7_copyOfRangeByte_39247 (l : Launch) (D : va_G) (J : jT) (A : Nat → Prop) (sz : Nat) (hA : ∀ y : Nat, sz ≤ y → A y) (ws : va_W) (v : Nat) (k : Nat) (f : Nat → Int32) (kv : Nat) (ev : ws[kv]? = some ((v, .inl (J.1, 16, .inl f)) : Nat × va_E)) (hk : k ≤ 15) (hF : jF f) : Met l yJ7_copyOfRangeByte_39247 wsJ7_copyOfRangeByte_39247 ({ frames := 8, cells := 1, slots := 16, locals := 200 }) (va_Pc [.ref (v), .int (zI (0)), .int (zI ((k : Int)))] (fun U => U.heap.size = sz ∧ jW D J A ws U)) (va_Qr (fun (u : (Nat) × (Nat → Int32)) => jF u.2) (fun u y9 t => y9 = u.1 ∧ va_P D vwCl (ws ++ [((u.1, .inl (J.1, k, .inl u.2)) : Nat × va_E)]) t.heap ∧ va_D A (ws ++ [((u.1, .inl (J.1, k, .inl u.2)) : Nat × va_E)])) A) 1 16 A := by
  refine Met.ofW (cc := cJ7_copyOfRangeByte_39247) (maxL := 5) (ret := (some (.array .byte))) (by decide) rfl ?_
  intro p e s m args below meth c s₁ B hml hpc0
  obtain ⟨rfl, hsz, hP, hD, hZ⟩ := hpc0
  have hx := B.exec
  have hb := B.bytes
  have hr := B.returns
  have hts := atoms_spec (ws := wsJ7_copyOfRangeByte_39247) B.pre
  have hown : s.vm.findClass RJ7 = some m.cls := findClass_of_methodNamed B.named
  have hlocks := B.notSynchronized
  have hin : meth.name = "copyOfRangeByte" := (name_of_methodNamed B.named B.method).1
  subst hsz
  have hK := hZ.1
  have hS : va_S A s.heap s.heap [] := va_S.rf
  have hk0 : ∀ x : Nat, x < s.heap.size → s.heap[x]? = s.heap[x]? := fun _ _ => rfl
  have hl := lv_entry ([.ref (v), .int (zI (0)), .int (zI ((k : Int)))]) (n := 5) (Nat.le_of_ble_eq_true rfl)
  rw [lg_entry_eq]
  generalize (lg_sl ([.ref (v), .int (zI (0)), .int (zI ((k : Int)))]) ++ List.replicate (5 - (lg_sl ([.ref (v), .int (zI (0)), .int (zI ((k : Int)))])).length) Slot.unset).toArray = ls at hl ⊢
  have hl : lv_has ls 5 [(0, .ref (v)), (1, .int (zI (0))), (2, .int (zI ((k : Int))))] := hl
  refine lv_iload_n hx hb dJ7_copyOfRangeByte_39247_0 rfl (lv_at hl 1 rfl) ?_
  refine lv_iload_n hx hb dJ7_copyOfRangeByte_39247_1 rfl (lv_at hl 2 rfl) ?_
  refine va_callv (va_runS (As := [.int (zI (0)), .int (zI ((k : Int)))]) (rest := []) ⟨hx, hb, hml, hown, hts⟩ (c_J7_checkLength_df160 l 0 (k : Int) (by omega)) (va_cwS 2 hts gJ7_copyOfRangeByte_39247_J7_checkLength_df160 rfl rfl rfl (by decide +kernel) ⟨Nat.le_of_ble_eq_true rfl, Nat.le_of_ble_eq_true rfl⟩) ⟨fun _ _ _ _ h => h, fun U hU hW => ⟨rfl, trivial⟩⟩ rfl rfl hl.1 rfl (lv_room (Nat.le_of_ble_eq_true rfl)) dJ7_copyOfRangeByte_39247_2 ⟨(show 0 + 0 ≤ 1 by omega), (show 0 + 0 ≤ 16 by omega)⟩) hS (fun _ _ h => h.elim) (fun _ h => h.elim) (fun u9 t9 H locs ht hvm hw hB hz hk hS1 => ?_)
  have hP := hP.kept (fun k x hk9 => hk x.1 ((hP k x hk9).lt) (fun h => h))
  have hk0 : ∀ x : Nat, x < s.heap.size → H[x]? = s.heap[x]? := fun x h9 => (hk x (Nat.lt_of_lt_of_le h9 hS.1) (fun h => h)).trans (hk0 x h9)
  have hS := hS1
  refine lv_iload_n hx hb dJ7_copyOfRangeByte_39247_5 rfl (lv_at hl 2 rfl) ?_
  refine lv_iload_n hx hb dJ7_copyOfRangeByte_39247_6 rfl (lv_at hl 1 rfl) ?_
  refine z_isub hx hb dJ7_copyOfRangeByte_39247_7 ?_
  refine lv_istore_n (lv' := [(3, .int (zI ((k : Int) - 0))), (0, .ref (v)), (1, .int (zI (0))), (2, .int (zI ((k : Int))))]) hx hb dJ7_copyOfRangeByte_39247_8 rfl hl (by decide) rfl (fun ls hl => ?_)
  refine lv_iload_n hx hb dJ7_copyOfRangeByte_39247_9 rfl (lv_at hl 0 rfl) ?_
  refine va_newa (atype := .byte) (n := zI ((k : Int) - 0)) (a0 := (k, .inl (fun _ => 0))) (N' := k) (ty := .byte) hx hb (hts (.arrayClass .byte) (by decide +kernel)) rfl hK hP hD hS hA (fun _ => rfl) (zI_pos (by omega)) (by rw [zI_clamp (by omega) (by omega)]; omega) (by show _ * 1 ≤ _; omega) (show 0 + 0 + 1 ≤ 1 by omega) (show 0 + 0 + k ≤ 16 by omega) dJ7_copyOfRangeByte_39247_10 (fun v9 cA9 H hK9 hP hD hS => ?_)
  obtain rfl : J.1 = cA9 := jK_same hK hK9
  obtain ⟨w10, ew10⟩ : ∃ z9 : va_W, z9 = ws ++ [((v9, .inl (J.1, k, .inl (fun _ => 0))) : Nat × va_E)] := ⟨_, rfl⟩
  rw [← ew10] at hP hD
  have ev_w10 : w10[kv]? = some ((v, .inl (J.1, 16, .inl f)) : Nat × va_E) := by rw [ew10]; exact js_old ev
  have ew_w10 : w10[ws.length]? = some ((v9, .inl (J.1, k, .inl (fun _ => 0))) : Nat × va_E) := by rw [ew10]; exact js_new
  refine lv_astore (lv' := [(4, .ref (v9)), (3, .int (zI ((k : Int) - 0))), (0, .ref (v)), (1, .int (zI (0))), (2, .int (zI ((k : Int))))]) hx hb dJ7_copyOfRangeByte_39247_12 hl (by decide) rfl (fun ls hl => ?_)
  refine lv_aload_n hx hb dJ7_copyOfRangeByte_39247_14 rfl (lv_at hl 2 rfl) ?_
  refine lv_iload_n hx hb dJ7_copyOfRangeByte_39247_15 rfl (lv_at hl 3 rfl) ?_
  refine lv_aload hx hb dJ7_copyOfRangeByte_39247_16 (lv_at hl 0 rfl) ?_
  refine lv_iconst (v := zI 0) hx hb dJ7_copyOfRangeByte_39247_18 rfl ?_
  refine lv_aload_n hx hb dJ7_copyOfRangeByte_39247_19 rfl (lv_at hl 2 rfl) ?_
  refine va_alen (v := zI (16)) hx hb hK hP kv 0 ev_w10 rfl (zI_nI _) dJ7_copyOfRangeByte_39247_20 ?_
  refine lv_iload_n hx hb dJ7_copyOfRangeByte_39247_21 rfl (lv_at hl 3 rfl) ?_
  refine z_isub hx hb dJ7_copyOfRangeByte_39247_22 ?_
  refine lv_iload_n hx hb dJ7_copyOfRangeByte_39247_23 rfl (lv_at hl 1 rfl) ?_
  refine va_mmin hx hb (by rw [hml]; exact hl.1.symm) hown (hts (.methodLink RJ7 304 Lib.Math.min.name) (by decide +kernel)) (hts (.static Lib.Math.min.name) (by decide +kernel)) (hts (.initialized "java/lang/Math") (by decide +kernel)) (hts (.code Lib.Math.min.name Lib.Math.min.code 2 (some .int)) (by decide +kernel)) (Nat.le_of_ble_eq_true rfl) (Nat.le_of_ble_eq_true rfl) (show 0 + 0 + 1 ≤ 1 by omega) (show 0 + 0 + k ≤ 16 by omega) dJ7_copyOfRangeByte_39247_24 ?_
  rw [zmin (x := (16 : Int) - 0) (y := (k : Int) - 0) (by omega) (by omega)]
  have hmn : zI (mnI ((16 : Int) - 0) ((k : Int) - 0)) = zI (k : Int) := by unfold mnI; split <;> congr 1 <;> omega
  rw [hmn]
  refine va_copyi (ty := .byte) (sp := zI (0)) (dp := zI (0)) (n := zI (k : Int)) hx hb (by rw [hml]; exact hl.1.symm) hown (hts (.methodLink RJ7 150 arraycopyName) (by decide +kernel)) (hts (.native arraycopyName) (by decide +kernel)) (hts (.static arraycopyName) (by decide +kernel)) (hts (.initialized "java/lang/System") (by decide +kernel)) hK hP hD hS kv ws.length 0 0 ev_w10 ew_w10 rfl rfl rfl (zI_pos (by omega)) (zI_pos (by omega)) (zI_pos (by omega)) (by rw [zI_clamp (by omega) (by omega), zI_clamp (by omega) (by omega)]; omega) (by rw [zI_clamp (by omega) (by omega), zI_clamp (by omega) (by omega)]; omega) (fun i9 _ => hF _) (Nat.le_of_ble_eq_true rfl) (Nat.le_of_ble_eq_true rfl) dJ7_copyOfRangeByte_39247_27 (fun H locs hP hD hS => ?_)
  have hF9 : jF (va_cpy f (fun _ => 0) (zI (0)).toNatClampNeg (zI (0)).toNatClampNeg (zI (k : Int)).toNatClampNeg) := sb_fitC hF sb_fit0
  generalize va_cpy f (fun _ => 0) (zI (0)).toNatClampNeg (zI (0)).toNatClampNeg (zI (k : Int)).toNatClampNeg = g9 at hF9 hP hD
  obtain ⟨w27, ew27⟩ : ∃ z9 : va_W, z9 = w10.set ws.length ((v9, .inl (J.1, k, .inl g9)) : Nat × va_E) := ⟨_, rfl⟩
  have hP : va_P D vwCl (w10.set ws.length ((v9, .inl (J.1, k, .inl g9)) : Nat × va_E)) H := hP
  have hD : va_D A (w10.set ws.length ((v9, .inl (J.1, k, .inl g9)) : Nat × va_E)) := hD
  rw [← ew27] at hP hD
  have ev_w27 : w27[kv]? = some ((v, .inl (J.1, 16, .inl f)) : Nat × va_E) := by rw [ew27]; exact js_nel ev ev_w10
  have ew_w27 : w27[ws.length]? = some ((v9, .inl (J.1, k, .inl g9)) : Nat × va_E) := by rw [ew27]; exact js_eq ew_w10
  refine lv_aload hx hb dJ7_copyOfRangeByte_39247_30 (lv_at hl 0 rfl) ?_
  refine W.widen (k := 1) (n := 16) (by omega) (by omega) ?_
  have eW : w27 = (ws ++ [((v9, .inl (J.1, k, .inl g9)) : Nat × va_E)]) := by rw [ew27, ew10]; exact js_last
  rw [eW] at hP hD
  exact W.aret (v := .ref (v9)) hx hb hr (Or.inr ⟨_, rfl⟩) (Or.inr ⟨_, rfl⟩) (fun t9 ht hW => ⟨⟨(v9, g9), _, rfl, hF9, rfl, by show va_P D vwCl _ t9.heap; rw [ht]; exact hP, hD⟩, hS.F ht⟩) hS.2.2 dJ7_copyOfRangeByte_39247_32

set_option maxHeartbeats 1000000 in
set_option maxRecDepth 100000 in
/-- J7_copyOfRange_39247 -/
theorem c_J7_copyOfRange_39247 (l : Launch) (D : va_G) (J : jT) (A : Nat → Prop) (sz : Nat) (hA : ∀ y : Nat, sz ≤ y → A y) (ws : va_W) (v : Nat) (k : Nat) (f : Nat → Int32) (kv : Nat) (ev : ws[kv]? = some ((v, .inl (J.1, 16, .inl f)) : Nat × va_E)) (hk : k ≤ 15) (hF : jF f) : Met l yJ7_copyOfRange_39247 wsJ7_copyOfRange_39247 ({ frames := 9, cells := 1, slots := 16, locals := 300 }) (va_Pc [.ref (v), .int (zI (0)), .int (zI ((k : Int)))] (fun U => U.heap.size = sz ∧ jW D J A ws U)) (va_Qr (fun (u : (Nat) × (Nat → Int32)) => jF u.2) (fun u y9 t => y9 = u.1 ∧ va_P D vwCl (ws ++ [((u.1, .inl (J.1, k, .inl u.2)) : Nat × va_E)]) t.heap ∧ va_D A (ws ++ [((u.1, .inl (J.1, k, .inl u.2)) : Nat × va_E)])) A) 1 16 A := by
  refine Met.ofW (cc := cJ7_copyOfRange_39247) (maxL := 3) (ret := (some (.array .byte))) (by decide) rfl ?_
  intro p e s m args below meth c s₁ B hml hpc0
  obtain ⟨rfl, hsz, hP, hD, hZ⟩ := hpc0
  have hx := B.exec
  have hb := B.bytes
  have hr := B.returns
  have hts := atoms_spec (ws := wsJ7_copyOfRange_39247) B.pre
  have hown : s.vm.findClass RJ7 = some m.cls := findClass_of_methodNamed B.named
  have hlocks := B.notSynchronized
  have hin : meth.name = "copyOfRange" := (name_of_methodNamed B.named B.method).1
  subst hsz
  have hK := hZ.1
  have hS : va_S A s.heap s.heap [] := va_S.rf
  have hk0 : ∀ x : Nat, x < s.heap.size → s.heap[x]? = s.heap[x]? := fun _ _ => rfl
  have hl := lv_entry ([.ref (v), .int (zI (0)), .int (zI ((k : Int)))]) (n := 3) (Nat.le_of_ble_eq_true rfl)
  rw [lg_entry_eq]
  generalize (lg_sl ([.ref (v), .int (zI (0)), .int (zI ((k : Int)))]) ++ List.replicate (3 - (lg_sl ([.ref (v), .int (zI (0)), .int (zI ((k : Int)))])).length) Slot.unset).toArray = ls at hl ⊢
  have hl : lv_has ls 3 [(0, .ref (v)), (1, .int (zI (0))), (2, .int (zI ((k : Int))))] := hl
  refine lv_iload_n hx hb dJ7_copyOfRange_39247_0 rfl (lv_at hl 1 rfl) ?_
  refine z_if_ne (tgt := 10) hx hb dJ7_copyOfRange_39247_1 (by decide) (by decide) (fun cd1 => absurd cd1 (by decide)) (fun _ => ?_)
  refine lv_iload_n hx hb dJ7_copyOfRange_39247_4 rfl (lv_at hl 2 rfl) ?_
  refine lv_aload_n hx hb dJ7_copyOfRange_39247_5 rfl (lv_at hl 0 rfl) ?_
  refine va_alen (v := zI (16)) hx hb hK hP kv 0 ev rfl (zI_nI _) dJ7_copyOfRange_39247_6 ?_
  refine z_icmp_eq (tgt := 17) hx hb dJ7_copyOfRange_39247_7 (by decide) (by omega) (by omega) (fun cd7 => ?_) (fun cd7 => ?_)
  · skip
    exfalso; omega
  · skip
    refine lv_aload_n hx hb dJ7_copyOfRange_39247_10 rfl (lv_at hl 0 rfl) ?_
    refine lv_iload_n hx hb dJ7_copyOfRange_39247_11 rfl (lv_at hl 1 rfl) ?_
    refine lv_iload_n hx hb dJ7_copyOfRange_39247_12 rfl (lv_at hl 2 rfl) ?_
    refine va_callr (va_runS (As := [.ref (v), .int (zI (0)), .int (zI ((k : Int)))]) (rest := []) ⟨hx, hb, hml, hown, hts⟩ (c_J7_copyOfRangeByte_39247 l D J A s.heap.size (fun y h => hA y (Nat.le_trans hS.1 h)) ws v k f kv ev (by omega) hF) (va_cwS 3 hts gJ7_copyOfRange_39247_J7_copyOfRangeByte_39247 rfl rfl rfl (by decide +kernel) ⟨Nat.le_of_ble_eq_true rfl, Nat.le_of_ble_eq_true rfl⟩) ⟨jW_blind, fun U hU hW => ⟨rfl, by rw [hU], jW_mk hP hD hZ hS hU hW⟩⟩ rfl rfl hl.1 rfl (lv_room (Nat.le_of_ble_eq_true rfl)) dJ7_copyOfRange_39247_13 ⟨(show 0 + 1 ≤ 1 by omega), (show 0 + 16 ≤ 16 by omega)⟩) hS (fun _ _ h => h) (fun _ h => h) (fun u9 ra9 t9 H locs ht hvm hw hB hz hk hS1 => ?_)
    obtain ⟨w113, g113⟩ := u9
    obtain ⟨hx9, hP9, hD9⟩ := hB
    rw [ht] at hP9
    have hP := hP9
    have hD := hD9
    have hS := hS1
    have hw13 := hw
    try dsimp only at hw13 hP hD
    obtain ⟨w13a, ew13a⟩ : ∃ z9 : va_W, z9 = ws ++ [((w113, .inl (J.1, k, .inl g113)) : Nat × va_E)] := ⟨_, rfl⟩
    rw [← ew13a] at hP hD
    have ev_w13a : w13a[kv]? = some ((v, .inl (J.1, 16, .inl f)) : Nat × va_E) := by rw [ew13a]; exact js_old ev
    have ew13_w13a : w13a[ws.length]? = some ((w113, .inl (J.1, k, .inl g113)) : Nat × va_E) := by rw [ew13a]; exact js_new
    rw [hx9]
    refine W.widen (k := 1) (n := 16) (by omega) (by omega) ?_
    have eW : w13a = (ws ++ [((w113, .inl (J.1, k, .inl g113)) : Nat × va_E)]) := by rw [ew13a]
    rw [eW] at hP hD
    exact W.aret (v := .ref (w113)) hx hb hr (Or.inr ⟨_, rfl⟩) (Or.inr ⟨_, rfl⟩) (fun t9 ht hW => ⟨⟨(w113, g113), _, rfl, hw13, rfl, by show va_P D vwCl _ t9.heap; rw [ht]; exact hP, hD⟩, hS.F ht⟩) hS.2.2 dJ7_copyOfRange_39247_16

set_option maxHeartbeats 1000000 in
set_option maxRecDepth 100000 in
/-- J0_init_db425 -/
theorem c_J0_init_db425 (l : Launch) (D : va_G) (J : jT) (A : Nat → Prop) (sz : Nat) (hA : ∀ y : Nat, sz ≤ y → A y) (ws : va_W) (y : Nat) (x : Nat) (v : Nat) (k : Nat) (f : Nat → Int32) (ky : Nat) (ey : ws[ky]? = some ((y, .inr (0, [.null, .int (zI (0)), .int (zI (0)), .int (zI (0))])) : Nat × va_E)) (kx : Nat) (ex : ws[kx]? = some ((x, .inr (1, [.ref (v), .int (zI (0)), .int (zI (0)), .int (zI ((k : Int)))])) : Nat × va_E)) (kv : Nat) (ev : ws[kv]? = some ((v, .inl (J.1, 16, .inl f)) : Nat × va_E)) (hk : k ≤ 15) (hF : jF f) : Met l yJ0_init_db425 wsJ0_init_db425 ({ frames := 10, cells := 1, slots := 16, locals := 400 }) (va_Pc [.ref (y), .ref (x), .null] (fun U => U.heap.size = sz ∧ jW D J A ws U)) (va_Qv (fun (u : (Nat) × (Nat → Int32)) => jF u.2) (fun u t => va_P D vwCl (((ws.set ky ((y, .inr (0, [.null, .int (zI (0)), .int (zI (0)), .int (zI (0))])) : Nat × va_E)) ++ [((u.1, .inl (J.1, k, .inl u.2)) : Nat × va_E)]).set ky ((y, .inr (0, [.ref (u.1), .int (zI (0)), .int (zI (0)), .int (zI (0))])) : Nat × va_E)) t.heap ∧ va_D A (((ws.set ky ((y, .inr (0, [.null, .int (zI (0)), .int (zI (0)), .int (zI (0))])) : Nat × va_E)) ++ [((u.1, .inl (J.1, k, .inl u.2)) : Nat × va_E)]).set ky ((y, .inr (0, [.ref (u.1), .int (zI (0)), .int (zI (0)), .int (zI (0))])) : Nat × va_E))) A) 1 16 A := by
  refine Met.ofW (cc := cJ0_init_db425) (maxL := 5) (ret := none) (by decide) rfl ?_
  intro p e s m args below meth c s₁ B hml hpc0
  obtain ⟨rfl, hsz, hP, hD, hZ⟩ := hpc0
  have hx := B.exec
  have hb := B.bytes
  have hr := B.returns
  have hts := atoms_spec (ws := wsJ0_init_db425) B.pre
  have hown : s.vm.findClass RJ0 = some m.cls := findClass_of_methodNamed B.named
  have hlocks := B.notSynchronized
  have hin : meth.name = "<init>" := (name_of_methodNamed B.named B.method).1
  subst hsz
  have hK := hZ.1
  have hS : va_S A s.heap s.heap [] := va_S.rf
  have hk0 : ∀ x : Nat, x < s.heap.size → s.heap[x]? = s.heap[x]? := fun _ _ => rfl
  have hl := lv_entry ([.ref (y), .ref (x), .null]) (n := 5) (Nat.le_of_ble_eq_true rfl)
  rw [lg_entry_eq]
  generalize (lg_sl ([.ref (y), .ref (x), .null]) ++ List.replicate (5 - (lg_sl ([.ref (y), .ref (x), .null])).length) Slot.unset).toArray = ls at hl ⊢
  have hl : lv_has ls 5 [(0, .ref (y)), (1, .ref (x)), (2, .null)] := hl
  have k9 := hts (.fieldLink RJ0 9 "java/lang/String" "value" "[B") (by decide +kernel)
  have k15 := hts (.fieldLink RJ0 15 "java/lang/String" "coder" "B") (by decide +kernel)
  have k38 := hts (.fieldLink RJ0 38 "java/lang/String" "COMPACT_STRINGS" "Z") (by decide +kernel)
  have k1048 := hts (.fieldLink RJ0 1048 "java/lang/AbstractStringBuilder" "maybeLatin1" "Z") (by decide +kernel)
  have inJ0 : ∀ w ∈ u_ws RJ0 TJ0 4, w ∈ wsJ0_init_db425 := by decide +kernel
  have inJ4 : ∀ w ∈ u_ws RJ4 TJ4 4, w ∈ wsJ0_init_db425 := by decide +kernel
  refine lv_aload_n hx hb dJ0_init_db425_0 rfl (lv_at hl 0 rfl) ?_
  refine W.objInit hx hb hown (hts (.methodLink RJ0 1 objectInit) (by decide +kernel)) (hts (.instanceMethod objectInit) (by decide +kernel)) (hts (.code objectInit ⟨#[0xb1]⟩ 1 none) (by decide +kernel)) rfl (by rw [hml]; exact hl.1) rfl dJ0_init_db425_1 (Nat.le_of_ble_eq_true rfl) (Nat.le_of_ble_eq_true rfl) ?_
  refine W.eq (g2 := F0 m 4 ls []) rfl ?_
  refine lv_aload_n hx hb dJ0_init_db425_4 rfl (lv_at hl 1 rfl) ?_
  refine va_callr (va_runU (As := []) (rest := []) ⟨hx, hb, hml, hown, hts⟩ (c_J5_getValue_6d5f1 l D J A s.heap.size (fun y h => hA y (Nat.le_trans hS.1 h)) ws x v (k : Int) kx ex) (va_cwU 0 hts gJ0_init_db425_J5_getValue_6d5f1_u552J4 rfl rfl rfl rfl (by decide +kernel) ⟨Nat.le_of_ble_eq_true rfl, Nat.le_of_ble_eq_true rfl⟩) ⟨jW_blind, va_recv hK hP (ci := 1) (q0 := kx) rfl ex, fun U hU hW => ⟨rfl, by rw [hU], jW_mk hP hD hZ hS hU hW⟩⟩ rfl rfl hl.1 rfl (lv_room (Nat.le_of_ble_eq_true rfl)) dJ0_init_db425_5 ⟨(show 0 + 0 ≤ 1 by omega), (show 0 + 0 ≤ 16 by omega)⟩) hS (fun _ _ h => h.elim) (fun _ h => h) (fun u9 ra9 t9 H locs ht hvm hw hB hz hk hS1 => ?_)
  have hP := hP.kept (fun k x hk9 => hk x.1 ((hP k x hk9).lt) (fun h => h))
  have hk0 : ∀ x : Nat, x < s.heap.size → H[x]? = s.heap[x]? := fun x h9 => (hk x (Nat.lt_of_lt_of_le h9 hS.1) (fun h => h)).trans (hk0 x h9)
  have hS := hS1
  rw [hB]
  refine lv_astore_n (lv' := [(3, .ref (v)), (0, .ref (y)), (1, .ref (x)), (2, .null)]) hx hb dJ0_init_db425_8 rfl hl (by decide) rfl (fun ls hl => ?_)
  refine lv_aload_n hx hb dJ0_init_db425_9 rfl (lv_at hl 2 rfl) ?_
  refine va_calli (va_runU (As := []) (rest := []) ⟨hx, hb, hml, hown, hts⟩ (c_J4_length_8abf5 l D J A H.size (fun y h => hA y (Nat.le_trans hS.1 h)) ws x v (k : Int) kx ex) (va_cwO 0 hts gJ0_init_db425_J4_length_8abf5_u549J4 rfl rfl rfl (b0 := cJ5_length_8abf5) (m0 := 1) (r0 := some .int) (by decide +kernel) (by decide +kernel) ⟨Nat.le_of_ble_eq_true rfl, Nat.le_of_ble_eq_true rfl⟩) ⟨jW_blind, va_recv hK hP (ci := 1) (q0 := kx) rfl ex, fun U hU hW => ⟨rfl, by rw [hU], jW_mk hP hD hZ hS hU hW⟩⟩ rfl rfl hl.1 rfl (lv_room (Nat.le_of_ble_eq_true rfl)) dJ0_init_db425_10 ⟨(show 0 + 0 + 0 ≤ 1 by omega), (show 0 + 0 + 0 ≤ 16 by omega)⟩) hS (fun _ _ h => h.elim) (fun _ h => h) (fun rv9 u9 t9 H locs ht hvm hw hB hz hk hS1 => ?_)
  have hP := hP.kept (fun k x hk9 => hk x.1 ((hP k x hk9).lt) (fun h => h))
  have hk0 : ∀ x : Nat, x < s.heap.size → H[x]? = s.heap[x]? := fun x h9 => (hk x (Nat.lt_of_lt_of_le h9 hS.1) (fun h => h)).trans (hk0 x h9)
  have hS := hS1
  obtain rfl := hw
  refine lv_istore (lv' := [(4, .int (zI ((k : Int)))), (3, .ref (v)), (0, .ref (y)), (1, .ref (x)), (2, .null)]) hx hb dJ0_init_db425_13 hl (by decide) rfl (fun ls hl => ?_)
  refine lv_aload_n hx hb dJ0_init_db425_15 rfl (lv_at hl 3 rfl) ?_
  refine va_calli (va_runU (As := []) (rest := []) ⟨hx, hb, hml, hown, hts⟩ (c_J5_isLatin1_aae02 l D J A H.size (fun y h => hA y (Nat.le_trans hS.1 h)) ws x v (k : Int) kx ex) (va_cwU 0 hts gJ0_init_db425_J5_isLatin1_aae02_u1047J4 rfl rfl rfl rfl (by decide +kernel) ⟨Nat.le_of_ble_eq_true rfl, Nat.le_of_ble_eq_true rfl⟩) ⟨jW_blind, va_recv hK hP (ci := 1) (q0 := kx) rfl ex, fun U hU hW => ⟨rfl, by rw [hU], jW_mk hP hD hZ hS hU hW⟩⟩ rfl rfl hl.1 rfl (lv_room (Nat.le_of_ble_eq_true rfl)) dJ0_init_db425_16 ⟨(show 0 + 0 + 0 + 0 ≤ 1 by omega), (show 0 + 0 + 0 + 0 ≤ 16 by omega)⟩) hS (fun _ _ h => h.elim) (fun _ h => h) (fun rv9 u9 t9 H locs ht hvm hw hB hz hk hS1 => ?_)
  have hP := hP.kept (fun k x hk9 => hk x.1 ((hP k x hk9).lt) (fun h => h))
  have hk0 : ∀ x : Nat, x < s.heap.size → H[x]? = s.heap[x]? := fun x h9 => (hk x (Nat.lt_of_lt_of_le h9 hS.1) (fun h => h)).trans (hk0 x h9)
  have hS := hS1
  obtain rfl := hw
  refine z_if_eq (tgt := 41) hx hb dJ0_init_db425_19 (by decide) (by decide) (fun cd19 => absurd cd19 (by decide)) (fun _ => ?_)
  refine lv_aload_n hx hb dJ0_init_db425_22 rfl (lv_at hl 2 rfl) ?_
  refine lv_iconst (v := zI 0) hx hb dJ0_init_db425_23 rfl ?_
  refine va_putF (D := D) (ci := 0) (v := .int (zI (0))) (ty := .byte) (C := RJ0) (T := TJ0) (N := 4) hx hb hts inJ0 tyJ0 tyJ0_ok nmJ0 hown hK hP hD hS ky ey rfl 1 (by decide) k15 (fun _ h9 => h9) rfl hin rfl (by decide +kernel) rfl rfl (Nat.le_of_ble_eq_true rfl) dJ0_init_db425_24 (fun H locs hP hD hS => ?_)
  obtain ⟨w24, ew24⟩ : ∃ z9 : va_W, z9 = ws.set ky ((y, .inr (0, [.null, .int (zI (0)), .int (zI (0)), .int (zI (0))])) : Nat × va_E) := ⟨_, rfl⟩
  have hP : va_P D vwCl (ws.set ky ((y, .inr (0, [.null, .int (zI (0)), .int (zI (0)), .int (zI (0))])) : Nat × va_E)) H := hP
  have hD : va_D A (ws.set ky ((y, .inr (0, [.null, .int (zI (0)), .int (zI (0)), .int (zI (0))])) : Nat × va_E)) := hD
  rw [← ew24] at hP hD
  have ey_w24 : w24[ky]? = some ((y, .inr (0, [.null, .int (zI (0)), .int (zI (0)), .int (zI (0))])) : Nat × va_E) := by rw [ew24]; exact js_eq ey
  have ex_w24 : w24[kx]? = some ((x, .inr (1, [.ref (v), .int (zI (0)), .int (zI (0)), .int (zI ((k : Int)))])) : Nat × va_E) := by rw [ew24]; exact js_ne ey ex (by intro h9; cases h9)
  have ev_w24 : w24[kv]? = some ((v, .inl (J.1, 16, .inl f)) : Nat × va_E) := by rw [ew24]; exact js_ne ey ev (by intro h9; cases h9)
  refine lv_aload_n hx hb dJ0_init_db425_27 rfl (lv_at hl 2 rfl) ?_
  refine lv_aload_n hx hb dJ0_init_db425_28 rfl (lv_at hl 1 rfl) ?_
  refine lv_iconst (v := zI 0) hx hb dJ0_init_db425_29 rfl ?_
  refine lv_iload hx hb dJ0_init_db425_30 (lv_at hl 0 rfl) ?_
  refine va_callr (va_runS (As := [.ref (v), .int (zI (0)), .int (zI ((k : Int)))]) (rest := [.ref (y)]) ⟨hx, hb, hml, hown, hts⟩ (c_J7_copyOfRange_39247 l D J A H.size (fun y h => hA y (Nat.le_trans hS.1 h)) w24 v k f kv ev_w24 (by omega) hF) (va_cwS 3 hts gJ0_init_db425_J7_copyOfRange_39247 rfl rfl rfl (by decide +kernel) ⟨Nat.le_of_ble_eq_true rfl, Nat.le_of_ble_eq_true rfl⟩) ⟨jW_blind, fun U hU hW => ⟨rfl, by rw [hU], jW_mk hP hD hZ hS hU hW⟩⟩ rfl rfl hl.1 rfl (lv_room (Nat.le_of_ble_eq_true rfl)) dJ0_init_db425_32 ⟨(show 0 + 0 + 0 + 0 + 1 ≤ 1 by omega), (show 0 + 0 + 0 + 0 + 16 ≤ 16 by omega)⟩) hS (fun _ _ h => h) (fun _ h => h) (fun u9 ra9 t9 H locs ht hvm hw hB hz hk hS1 => ?_)
  obtain ⟨w132, g132⟩ := u9
  obtain ⟨hx9, hP9, hD9⟩ := hB
  rw [ht] at hP9
  have hP := hP9
  have hD := hD9
  have hS := hS1
  have hw32 := hw
  try dsimp only at hw32 hP hD
  obtain ⟨w32a, ew32a⟩ : ∃ z9 : va_W, z9 = w24 ++ [((w132, .inl (J.1, k, .inl g132)) : Nat × va_E)] := ⟨_, rfl⟩
  rw [← ew32a] at hP hD
  have ey_w32a : w32a[ky]? = some ((y, .inr (0, [.null, .int (zI (0)), .int (zI (0)), .int (zI (0))])) : Nat × va_E) := by rw [ew32a]; exact js_old ey_w24
  have ex_w32a : w32a[kx]? = some ((x, .inr (1, [.ref (v), .int (zI (0)), .int (zI (0)), .int (zI ((k : Int)))])) : Nat × va_E) := by rw [ew32a]; exact js_old ex_w24
  have ev_w32a : w32a[kv]? = some ((v, .inl (J.1, 16, .inl f)) : Nat × va_E) := by rw [ew32a]; exact js_old ev_w24
  have ew32_w32a : w32a[w24.length]? = some ((w132, .inl (J.1, k, .inl g132)) : Nat × va_E) := by rw [ew32a]; exact js_new
  rw [hx9]
  refine va_putF (D := D) (ci := 0) (v := .ref (w132)) (ty := (.array .byte)) (C := RJ0) (T := TJ0) (N := 4) hx hb hts inJ0 tyJ0 tyJ0_ok nmJ0 hown hK hP hD hS ky ey_w32a rfl 0 (by decide) k9 (fun _ h9 => h9) rfl hin rfl (by decide +kernel) rfl rfl (Nat.le_of_ble_eq_true rfl) dJ0_init_db425_35 (fun H locs hP hD hS => ?_)
  obtain ⟨w35, ew35⟩ : ∃ z9 : va_W, z9 = w32a.set ky ((y, .inr (0, [.ref (w132), .int (zI (0)), .int (zI (0)), .int (zI (0))])) : Nat × va_E) := ⟨_, rfl⟩
  have hP : va_P D vwCl (w32a.set ky ((y, .inr (0, [.ref (w132), .int (zI (0)), .int (zI (0)), .int (zI (0))])) : Nat × va_E)) H := hP
  have hD : va_D A (w32a.set ky ((y, .inr (0, [.ref (w132), .int (zI (0)), .int (zI (0)), .int (zI (0))])) : Nat × va_E)) := hD
  rw [← ew35] at hP hD
  have ey_w35 : w35[ky]? = some ((y, .inr (0, [.ref (w132), .int (zI (0)), .int (zI (0)), .int (zI (0))])) : Nat × va_E) := by rw [ew35]; exact js_eq ey_w32a
  have ex_w35 : w35[kx]? = some ((x, .inr (1, [.ref (v), .int (zI (0)), .int (zI (0)), .int (zI ((k : Int)))])) : Nat × va_E) := by rw [ew35]; exact js_ne ey_w32a ex_w32a (by intro h9; cases h9)
  have ev_w35 : w35[kv]? = some ((v, .inl (J.1, 16, .inl f)) : Nat × va_E) := by rw [ew35]; exact js_ne ey_w32a ev_w32a (by intro h9; cases h9)
  have ew32_w35 : w35[w24.length]? = some ((w132, .inl (J.1, k, .inl g132)) : Nat × va_E) := by rw [ew35]; exact js_ne ey_w32a ew32_w32a (by intro h9; cases h9)
  refine lv_goto (tgt := 97) hx hb dJ0_init_db425_38 (by decide) ?_
  refine W.widen (k := 1) (n := 16) (by omega) (by omega) ?_
  have eW : w35 = (((ws.set ky ((y, .inr (0, [.null, .int (zI (0)), .int (zI (0)), .int (zI (0))])) : Nat × va_E)) ++ [((w132, .inl (J.1, k, .inl g132)) : Nat × va_E)]).set ky ((y, .inr (0, [.ref (w132), .int (zI (0)), .int (zI (0)), .int (zI (0))])) : Nat × va_E)) := by rw [ew35, ew32a, ew24]
  rw [eW] at hP hD
  exact W.vret hx hb hr (fun t9 ht hW => ⟨⟨(w132, g132), rfl, hw32, by show va_P D vwCl _ t9.heap; rw [ht]; exact hP, hD⟩, hS.F ht⟩) hS.2.2 dJ0_init_db425_97

set_option maxHeartbeats 1000000 in
set_option maxRecDepth 100000 in
/-- J0_init_81219 -/
theorem c_J0_init_81219 (l : Launch) (D : va_G) (J : jT) (A : Nat → Prop) (sz : Nat) (hA : ∀ y : Nat, sz ≤ y → A y) (ws : va_W) (y : Nat) (x : Nat) (v : Nat) (k : Nat) (f : Nat → Int32) (ky : Nat) (ey : ws[ky]? = some ((y, .inr (0, [.null, .int (zI (0)), .int (zI (0)), .int (zI (0))])) : Nat × va_E)) (kx : Nat) (ex : ws[kx]? = some ((x, .inr (1, [.ref (v), .int (zI (0)), .int (zI (0)), .int (zI ((k : Int)))])) : Nat × va_E)) (kv : Nat) (ev : ws[kv]? = some ((v, .inl (J.1, 16, .inl f)) : Nat × va_E)) (hk : k ≤ 15) (hF : jF f) : Met l yJ0_init_81219 wsJ0_init_81219 ({ frames := 11, cells := 1, slots := 16, locals := 500 }) (va_Pc [.ref (y), .ref (x)] (fun U => U.heap.size = sz ∧ jW D J A ws U)) (va_Qv (fun (u : (Nat) × (Nat → Int32)) => jF u.2) (fun u t => va_P D vwCl (((ws.set ky ((y, .inr (0, [.null, .int (zI (0)), .int (zI (0)), .int (zI (0))])) : Nat × va_E)) ++ [((u.1, .inl (J.1, k, .inl u.2)) : Nat × va_E)]).set ky ((y, .inr (0, [.ref (u.1), .int (zI (0)), .int (zI (0)), .int (zI (0))])) : Nat × va_E)) t.heap ∧ va_D A (((ws.set ky ((y, .inr (0, [.null, .int (zI (0)), .int (zI (0)), .int (zI (0))])) : Nat × va_E)) ++ [((u.1, .inl (J.1, k, .inl u.2)) : Nat × va_E)]).set ky ((y, .inr (0, [.ref (u.1), .int (zI (0)), .int (zI (0)), .int (zI (0))])) : Nat × va_E))) A) 1 16 A := by
  refine Met.ofW (cc := cJ0_init_81219) (maxL := 2) (ret := none) (by decide) rfl ?_
  intro p e s m args below meth c s₁ B hml hpc0
  obtain ⟨rfl, hsz, hP, hD, hZ⟩ := hpc0
  have hx := B.exec
  have hb := B.bytes
  have hr := B.returns
  have hts := atoms_spec (ws := wsJ0_init_81219) B.pre
  have hown : s.vm.findClass RJ0 = some m.cls := findClass_of_methodNamed B.named
  have hlocks := B.notSynchronized
  have hin : meth.name = "<init>" := (name_of_methodNamed B.named B.method).1
  subst hsz
  have hK := hZ.1
  have hS : va_S A s.heap s.heap [] := va_S.rf
  have hk0 : ∀ x : Nat, x < s.heap.size → s.heap[x]? = s.heap[x]? := fun _ _ => rfl
  have hl := lv_entry ([.ref (y), .ref (x)]) (n := 2) (Nat.le_of_ble_eq_true rfl)
  rw [lg_entry_eq]
  generalize (lg_sl ([.ref (y), .ref (x)]) ++ List.replicate (2 - (lg_sl ([.ref (y), .ref (x)])).length) Slot.unset).toArray = ls at hl ⊢
  have hl : lv_has ls 2 [(0, .ref (y)), (1, .ref (x))] := hl
  have inJ0 : ∀ w ∈ u_ws RJ0 TJ0 4, w ∈ wsJ0_init_81219 := by decide +kernel
  have inJ4 : ∀ w ∈ u_ws RJ4 TJ4 4, w ∈ wsJ0_init_81219 := by decide +kernel
  refine lv_aload_n hx hb dJ0_init_81219_0 rfl (lv_at hl 0 rfl) ?_
  refine lv_aload_n hx hb dJ0_init_81219_1 rfl (lv_at hl 1 rfl) ?_
  refine lv_null hx hb dJ0_init_81219_2 ?_
  refine va_callv (va_runI (As := [.ref (x), .null]) (rest := []) ⟨hx, hb, hml, hown, hts⟩ (c_J0_init_db425 l D J A s.heap.size (fun y h => hA y (Nat.le_trans hS.1 h)) ws y x v k f ky ey kx ex kv ev (by omega) hF) (cwI 2 hts gJ0_init_81219_J0_init_db425 rfl rfl rfl (hts (.initialized RJ0) (by decide +kernel)) (hts (.methodLink RJ0 489 yJ0_init_db425) (by decide +kernel)) (hts (.instanceMethod yJ0_init_db425) (by decide +kernel)) rfl (by decide +kernel) ⟨Nat.le_of_ble_eq_true rfl, Nat.le_of_ble_eq_true rfl⟩) ⟨jW_blind, fun U hU hW => ⟨rfl, by rw [hU], jW_mk hP hD hZ hS hU hW⟩⟩ rfl rfl hl.1 rfl (lv_room (Nat.le_of_ble_eq_true rfl)) dJ0_init_81219_3 ⟨(show 0 + 1 ≤ 1 by omega), (show 0 + 16 ≤ 16 by omega)⟩) hS (fun _ _ h => h) (fun _ h => h) (fun u9 t9 H locs ht hvm hw hB hz hk hS1 => ?_)
  obtain ⟨w13, g13⟩ := u9
  obtain ⟨hP9, hD9⟩ := hB
  rw [ht] at hP9
  have hP := hP9
  have hD := hD9
  have hS := hS1
  have hw3 := hw
  try dsimp only at hw3 hP hD
  obtain ⟨w3a, ew3a⟩ : ∃ z9 : va_W, z9 = ws.set ky ((y, .inr (0, [.null, .int (zI (0)), .int (zI (0)), .int (zI (0))])) : Nat × va_E) := ⟨_, rfl⟩
  rw [← ew3a] at hP hD
  have ey_w3a : w3a[ky]? = some ((y, .inr (0, [.null, .int (zI (0)), .int (zI (0)), .int (zI (0))])) : Nat × va_E) := by rw [ew3a]; exact js_eq ey
  have ex_w3a : w3a[kx]? = some ((x, .inr (1, [.ref (v), .int (zI (0)), .int (zI (0)), .int (zI ((k : Int)))])) : Nat × va_E) := by rw [ew3a]; exact js_ne ey ex (by intro h9; cases h9)
  have ev_w3a : w3a[kv]? = some ((v, .inl (J.1, 16, .inl f)) : Nat × va_E) := by rw [ew3a]; exact js_ne ey ev (by intro h9; cases h9)
  obtain ⟨w3b, ew3b⟩ : ∃ z9 : va_W, z9 = w3a ++ [((w13, .inl (J.1, k, .inl g13)) : Nat × va_E)] := ⟨_, rfl⟩
  rw [← ew3b] at hP hD
  have ey_w3b : w3b[ky]? = some ((y, .inr (0, [.null, .int (zI (0)), .int (zI (0)), .int (zI (0))])) : Nat × va_E) := by rw [ew3b]; exact js_old ey_w3a
  have ex_w3b : w3b[kx]? = some ((x, .inr (1, [.ref (v), .int (zI (0)), .int (zI (0)), .int (zI ((k : Int)))])) : Nat × va_E) := by rw [ew3b]; exact js_old ex_w3a
  have ev_w3b : w3b[kv]? = some ((v, .inl (J.1, 16, .inl f)) : Nat × va_E) := by rw [ew3b]; exact js_old ev_w3a
  have ew3_w3b : w3b[w3a.length]? = some ((w13, .inl (J.1, k, .inl g13)) : Nat × va_E) := by rw [ew3b]; exact js_new
  obtain ⟨w3c, ew3c⟩ : ∃ z9 : va_W, z9 = w3b.set ky ((y, .inr (0, [.ref (w13), .int (zI (0)), .int (zI (0)), .int (zI (0))])) : Nat × va_E) := ⟨_, rfl⟩
  rw [← ew3c] at hP hD
  have ey_w3c : w3c[ky]? = some ((y, .inr (0, [.ref (w13), .int (zI (0)), .int (zI (0)), .int (zI (0))])) : Nat × va_E) := by rw [ew3c]; exact js_eq ey_w3b
  have ex_w3c : w3c[kx]? = some ((x, .inr (1, [.ref (v), .int (zI (0)), .int (zI (0)), .int (zI ((k : Int)))])) : Nat × va_E) := by rw [ew3c]; exact js_ne ey_w3b ex_w3b (by intro h9; cases h9)
  have ev_w3c : w3c[kv]? = some ((v, .inl (J.1, 16, .inl f)) : Nat × va_E) := by rw [ew3c]; exact js_ne ey_w3b ev_w3b (by intro h9; cases h9)
  have ew3_w3c : w3c[w3a.length]? = some ((w13, .inl (J.1, k, .inl g13)) : Nat × va_E) := by rw [ew3c]; exact js_ne ey_w3b ew3_w3b (by intro h9; cases h9)
  refine W.widen (k := 1) (n := 16) (by omega) (by omega) ?_
  have eW : w3c = (((ws.set ky ((y, .inr (0, [.null, .int (zI (0)), .int (zI (0)), .int (zI (0))])) : Nat × va_E)) ++ [((w13, .inl (J.1, k, .inl g13)) : Nat × va_E)]).set ky ((y, .inr (0, [.ref (w13), .int (zI (0)), .int (zI (0)), .int (zI (0))])) : Nat × va_E)) := by rw [ew3c, ew3b, ew3a]
  rw [eW] at hP hD
  exact W.vret hx hb hr (fun t9 ht hW => ⟨⟨(w13, g13), rfl, hw3, by show va_P D vwCl _ t9.heap; rw [ht]; exact hP, hD⟩, hS.F ht⟩) hS.2.2 dJ0_init_81219_6

set_option maxHeartbeats 1000000 in
set_option maxRecDepth 100000 in
/-- J4_toString_0e30d -/
theorem c_J4_toString_0e30d (l : Launch) (D : va_G) (J : jT) (A : Nat → Prop) (sz : Nat) (hA : ∀ y : Nat, sz ≤ y → A y) (ws : va_W) (x : Nat) (v : Nat) (k : Nat) (f : Nat → Int32) (kx : Nat) (ex : ws[kx]? = some ((x, .inr (1, [.ref (v), .int (zI (0)), .int (zI (0)), .int (zI ((k : Int)))])) : Nat × va_E)) (kv : Nat) (ev : ws[kv]? = some ((v, .inl (J.1, 16, .inl f)) : Nat × va_E)) (hk : k ≤ 15) (hF : jF f) : Met l yJ4_toString_0e30d wsJ4_toString_0e30d ({ frames := 12, cells := 2, slots := 20, locals := 600 }) (va_Pc [.ref (x)] (fun U => U.heap.size = sz ∧ jW D J A ws U)) (va_Qr (fun (u : (Nat) × (Nat) × (Nat → Int32)) => jF u.2.2) (fun u y9 t => y9 = u.1 ∧ va_P D vwCl ((((ws ++ [((u.1, .inr (0, [.null, .int (zI (0)), .int (zI (0)), .int (zI (0))])) : Nat × va_E)]).set ws.length ((u.1, .inr (0, [.null, .int (zI (0)), .int (zI (0)), .int (zI (0))])) : Nat × va_E)) ++ [((u.2.1, .inl (J.1, k, .inl u.2.2)) : Nat × va_E)]).set ws.length ((u.1, .inr (0, [.ref (u.2.1), .int (zI (0)), .int (zI (0)), .int (zI (0))])) : Nat × va_E)) t.heap ∧ va_D A ((((ws ++ [((u.1, .inr (0, [.null, .int (zI (0)), .int (zI (0)), .int (zI (0))])) : Nat × va_E)]).set ws.length ((u.1, .inr (0, [.null, .int (zI (0)), .int (zI (0)), .int (zI (0))])) : Nat × va_E)) ++ [((u.2.1, .inl (J.1, k, .inl u.2.2)) : Nat × va_E)]).set ws.length ((u.1, .inr (0, [.ref (u.2.1), .int (zI (0)), .int (zI (0)), .int (zI (0))])) : Nat × va_E))) A) 2 20 A := by
  refine Met.ofW (cc := cJ4_toString_0e30d) (maxL := 1) (ret := (some (.object "java/lang/String"))) (by decide) rfl ?_
  intro p e s m args below meth c s₁ B hml hpc0
  obtain ⟨rfl, hsz, hP, hD, hZ⟩ := hpc0
  have hx := B.exec
  have hb := B.bytes
  have hr := B.returns
  have hts := atoms_spec (ws := wsJ4_toString_0e30d) B.pre
  have hown : s.vm.findClass RJ4 = some m.cls := findClass_of_methodNamed B.named
  have hlocks := B.notSynchronized
  have hin : meth.name = "toString" := (name_of_methodNamed B.named B.method).1
  subst hsz
  have hK := hZ.1
  have hS : va_S A s.heap s.heap [] := va_S.rf
  have hk0 : ∀ x : Nat, x < s.heap.size → s.heap[x]? = s.heap[x]? := fun _ _ => rfl
  have hl := lv_entry ([.ref (x)]) (n := 1) (Nat.le_of_ble_eq_true rfl)
  rw [lg_entry_eq]
  generalize (lg_sl ([.ref (x)]) ++ List.replicate (1 - (lg_sl ([.ref (x)])).length) Slot.unset).toArray = ls at hl ⊢
  have hl : lv_has ls 1 [(0, .ref (x))] := hl
  have inJ0 : ∀ w ∈ u_ws RJ0 TJ0 4, w ∈ wsJ4_toString_0e30d := by decide +kernel
  have inJ4 : ∀ w ∈ u_ws RJ4 TJ4 4, w ∈ wsJ4_toString_0e30d := by decide +kernel
  refine w_new (ci := 0) (fs := [.null, .int (zI (0)), .int (zI (0)), .int (zI (0))]) (C := RJ0) (T := TJ0) (N := 4) hx hb hts inJ0 tyJ0 tyJ0_ok hown (hts (.classLink RJ4 18 RJ0) (by decide +kernel)) (hts (.instantiable RJ0 4) (by decide +kernel)) (hts (.initialized RJ0) (by decide +kernel)) hK hP hD hS hA rfl (fun j hj => by rcases (show j = 0 ∨ j = 1 ∨ j = 2 ∨ j = 3 by omega) with rfl | rfl | rfl | rfl <;> rfl) (show 0 + 1 ≤ 2 by omega) (show 0 + 4 ≤ 20 by omega) dJ4_toString_0e30d_0 (fun yq H hxq hsz1 ho1 hP hD hS1 => ?_)
  have hS := hS1
  obtain ⟨w0, ew0⟩ : ∃ z9 : va_W, z9 = ws ++ [((yq, .inr (0, [.null, .int (zI (0)), .int (zI (0)), .int (zI (0))])) : Nat × va_E)] := ⟨_, rfl⟩
  rw [← ew0] at hP hD
  have ex_w0 : w0[kx]? = some ((x, .inr (1, [.ref (v), .int (zI (0)), .int (zI (0)), .int (zI ((k : Int)))])) : Nat × va_E) := by rw [ew0]; exact js_old ex
  have ev_w0 : w0[kv]? = some ((v, .inl (J.1, 16, .inl f)) : Nat × va_E) := by rw [ew0]; exact js_old ev
  have ey_w0 : w0[ws.length]? = some ((yq, .inr (0, [.null, .int (zI (0)), .int (zI (0)), .int (zI (0))])) : Nat × va_E) := by rw [ew0]; exact js_new
  refine lv_dup hx hb dJ4_toString_0e30d_3 rfl ?_
  refine lv_aload_n hx hb dJ4_toString_0e30d_4 rfl (lv_at hl 0 rfl) ?_
  refine va_callv (va_runI (As := [.ref (x)]) (rest := [.ref (yq)]) ⟨hx, hb, hml, hown, hts⟩ (c_J0_init_81219 l D J A H.size (fun y h => hA y (Nat.le_trans hS.1 h)) w0 yq x v k f ws.length ey_w0 kx ex_w0 kv ev_w0 (by omega) hF) (cwI 1 hts gJ4_toString_0e30d_J0_init_81219 rfl rfl rfl (hts (.initialized RJ0) (by decide +kernel)) (hts (.methodLink RJ4 137 yJ0_init_81219) (by decide +kernel)) (hts (.instanceMethod yJ0_init_81219) (by decide +kernel)) rfl (by decide +kernel) ⟨Nat.le_of_ble_eq_true rfl, Nat.le_of_ble_eq_true rfl⟩) ⟨jW_blind, fun U hU hW => ⟨rfl, by rw [hU], jW_mk hP hD hZ hS hU hW⟩⟩ rfl rfl hl.1 rfl (lv_room (Nat.le_of_ble_eq_true rfl)) dJ4_toString_0e30d_5 ⟨(show 0 + 1 + 1 ≤ 2 by omega), (show 0 + 4 + 16 ≤ 20 by omega)⟩) hS (fun _ _ h => h) (fun _ h => h) (fun u9 t9 H locs ht hvm hw hB hz hk hS1 => ?_)
  obtain ⟨w15, g15⟩ := u9
  obtain ⟨hP9, hD9⟩ := hB
  rw [ht] at hP9
  have hP := hP9
  have hD := hD9
  have hS := hS1
  have hw5 := hw
  try dsimp only at hw5 hP hD
  obtain ⟨w5a, ew5a⟩ : ∃ z9 : va_W, z9 = w0.set ws.length ((yq, .inr (0, [.null, .int (zI (0)), .int (zI (0)), .int (zI (0))])) : Nat × va_E) := ⟨_, rfl⟩
  rw [← ew5a] at hP hD
  have ex_w5a : w5a[kx]? = some ((x, .inr (1, [.ref (v), .int (zI (0)), .int (zI (0)), .int (zI ((k : Int)))])) : Nat × va_E) := by rw [ew5a]; exact js_nel ex ex_w0
  have ev_w5a : w5a[kv]? = some ((v, .inl (J.1, 16, .inl f)) : Nat × va_E) := by rw [ew5a]; exact js_nel ev ev_w0
  have ey_w5a : w5a[ws.length]? = some ((yq, .inr (0, [.null, .int (zI (0)), .int (zI (0)), .int (zI (0))])) : Nat × va_E) := by rw [ew5a]; exact js_eq ey_w0
  obtain ⟨w5b, ew5b⟩ : ∃ z9 : va_W, z9 = w5a ++ [((w15, .inl (J.1, k, .inl g15)) : Nat × va_E)] := ⟨_, rfl⟩
  rw [← ew5b] at hP hD
  have ex_w5b : w5b[kx]? = some ((x, .inr (1, [.ref (v), .int (zI (0)), .int (zI (0)), .int (zI ((k : Int)))])) : Nat × va_E) := by rw [ew5b]; exact js_old ex_w5a
  have ev_w5b : w5b[kv]? = some ((v, .inl (J.1, 16, .inl f)) : Nat × va_E) := by rw [ew5b]; exact js_old ev_w5a
  have ey_w5b : w5b[ws.length]? = some ((yq, .inr (0, [.null, .int (zI (0)), .int (zI (0)), .int (zI (0))])) : Nat × va_E) := by rw [ew5b]; exact js_old ey_w5a
  have ew5_w5b : w5b[w5a.length]? = some ((w15, .inl (J.1, k, .inl g15)) : Nat × va_E) := by rw [ew5b]; exact js_new
  obtain ⟨w5c, ew5c⟩ : ∃ z9 : va_W, z9 = w5b.set ws.length ((yq, .inr (0, [.ref (w15), .int (zI (0)), .int (zI (0)), .int (zI (0))])) : Nat × va_E) := ⟨_, rfl⟩
  rw [← ew5c] at hP hD
  have ex_w5c : w5c[kx]? = some ((x, .inr (1, [.ref (v), .int (zI (0)), .int (zI (0)), .int (zI ((k : Int)))])) : Nat × va_E) := by rw [ew5c]; exact js_nel ex ex_w5b
  have ev_w5c : w5c[kv]? = some ((v, .inl (J.1, 16, .inl f)) : Nat × va_E) := by rw [ew5c]; exact js_nel ev ev_w5b
  have ey_w5c : w5c[ws.length]? = some ((yq, .inr (0, [.ref (w15), .int (zI (0)), .int (zI (0)), .int (zI (0))])) : Nat × va_E) := by rw [ew5c]; exact js_eq ey_w5b
  have ew5_w5c : w5c[w5a.length]? = some ((w15, .inl (J.1, k, .inl g15)) : Nat × va_E) := by rw [ew5c]; exact js_ne ey_w5b ew5_w5b (by intro h9; cases h9)
  refine W.widen (k := 2) (n := 20) (by omega) (by omega) ?_
  have eW : w5c = ((((ws ++ [((yq, .inr (0, [.null, .int (zI (0)), .int (zI (0)), .int (zI (0))])) : Nat × va_E)]).set ws.length ((yq, .inr (0, [.null, .int (zI (0)), .int (zI (0)), .int (zI (0))])) : Nat × va_E)) ++ [((w15, .inl (J.1, k, .inl g15)) : Nat × va_E)]).set ws.length ((yq, .inr (0, [.ref (w15), .int (zI (0)), .int (zI (0)), .int (zI (0))])) : Nat × va_E)) := by rw [ew5c, ew5b, ew5a, ew0]
  rw [eW] at hP hD
  exact W.aret (v := .ref (yq)) hx hb hr (Or.inl ⟨_, rfl⟩) (Or.inr ⟨_, rfl⟩) (fun t9 ht hW => ⟨⟨(yq, w15, g15), _, rfl, hw5, rfl, by show va_P D vwCl _ t9.heap; rw [ht]; exact hP, hD⟩, hS.F ht⟩) hS.2.2 dJ4_toString_0e30d_8
