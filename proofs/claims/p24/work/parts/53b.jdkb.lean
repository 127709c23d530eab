set_option maxHeartbeats 1000000 in
set_option maxRecDepth 100000 in
/-- J6_getChars_ba4f3 -/
theorem c_J6_getChars_ba4f3 (l : Launch) (D : va_G) (J : jT) (A : Nat → Prop) (sz : Nat) (hA : ∀ y : Nat, sz ≤ y → A y) (ws : va_W) (z : Int) (i : Int) (v : Nat) (f : Nat → Int32) (kv : Nat) (ev : ws[kv]? = some ((v, .inl (J.1, 16, .inl f)) : Nat × va_E)) (hz : 0 ≤ z ∧ z ≤ 99) (hi : 1 ≤ i ∧ i ≤ 16 ∧ (10 ≤ z → 2 ≤ i)) (hF : jF f) : Met l yJ6_getChars_ba4f3 wsJ6_getChars_ba4f3 ({ frames := 7, cells := 0, slots := 0, locals := 100 }) (va_Pc [.int (zI (z)), .int (zI (i)), .ref (v)] (fun U => U.heap.size = sz ∧ jW D J A ws U)) (va_Qi (fun (_ : Int32) (u : (Nat → Int32)) => jF u) (fun u t => va_P D vwCl (ws.set kv ((v, .inl (J.1, 16, .inl u)) : Nat × va_E)) t.heap ∧ va_D A (ws.set kv ((v, .inl (J.1, 16, .inl u)) : Nat × va_E))) A) 0 0 A := by
  refine Met.ofW (cc := cJ6_getChars_ba4f3) (maxL := 7) (ret := (some .int)) (by decide) rfl ?_
  intro p e s m args below meth c s₁ B hml hpc0
  obtain ⟨rfl, hsz, hP, hD, hZ⟩ := hpc0
  have hx := B.exec
  have hb := B.bytes
  have hr := B.returns
  have hts := atoms_spec (ws := wsJ6_getChars_ba4f3) B.pre
  have hown : s.vm.findClass RJ6 = some m.cls := findClass_of_methodNamed B.named
  have hlocks := B.notSynchronized
  have hin : meth.name = "getChars" := (name_of_methodNamed B.named B.method).1
  subst hsz
  have hK := hZ.1
  have hS : va_S A s.heap s.heap [] := va_S.rf
  have hk0 : ∀ x : Nat, x < s.heap.size → s.heap[x]? = s.heap[x]? := fun _ _ => rfl
  have hl := lv_entry ([.int (zI (z)), .int (zI (i)), .ref (v)]) (n := 7) (Nat.le_of_ble_eq_true rfl)
  rw [lg_entry_eq]
  generalize (lg_sl ([.int (zI (z)), .int (zI (i)), .ref (v)]) ++ List.replicate (7 - (lg_sl ([.int (zI (z)), .int (zI (i)), .ref (v)])).length) Slot.unset).toArray = ls at hl ⊢
  have hl : lv_has ls 7 [(0, .int (zI (z))), (1, .int (zI (i))), (2, .ref (v))] := hl
  have k83 := hts (.fieldLink RJ6 83 "java/lang/Integer" "DigitOnes" "[B") (by decide +kernel)
  have k87 := hts (.fieldLink RJ6 87 "java/lang/Integer" "DigitTens" "[B") (by decide +kernel)
  refine lv_iload_n hx hb dJ6_getChars_ba4f3_0 rfl (lv_at hl 1 rfl) ?_
  refine lv_istore (lv' := [(5, .int (zI (i))), (0, .int (zI (z))), (1, .int (zI (i))), (2, .ref (v))]) hx hb dJ6_getChars_ba4f3_1 hl (by decide) rfl (fun ls hl => ?_)
  refine lv_iload_n hx hb dJ6_getChars_ba4f3_3 rfl (lv_at hl 1 rfl) ?_
  refine z_if_ge (tgt := 11) hx hb dJ6_getChars_ba4f3_4 (by decide) (by omega) (fun cd4 => ?_) (fun cd4 => ?_)
  · skip
    refine lv_iconst (v := zI 0) hx hb dJ6_getChars_ba4f3_11 rfl ?_
    refine lv_istore (lv' := [(6, .int (zI (0))), (5, .int (zI (i))), (0, .int (zI (z))), (1, .int (zI (i))), (2, .ref (v))]) hx hb dJ6_getChars_ba4f3_12 hl (by decide) rfl (fun ls hl => ?_)
    refine lv_iload hx hb dJ6_getChars_ba4f3_14 (lv_at hl 0 rfl) ?_
    refine z_if_ne (tgt := 22) hx hb dJ6_getChars_ba4f3_16 (by decide) (by decide) (fun cd16 => absurd cd16 (by decide)) (fun _ => ?_)
    refine lv_iload_n hx hb dJ6_getChars_ba4f3_19 rfl (lv_at hl 2 rfl) ?_
    refine z_ineg hx hb dJ6_getChars_ba4f3_20 ?_
    refine lv_istore_n (lv' := [(0, .int (zI (-z))), (6, .int (zI (0))), (5, .int (zI (i))), (1, .int (zI (i))), (2, .ref (v))]) hx hb dJ6_getChars_ba4f3_21 rfl hl (by decide) rfl (fun ls hl => ?_)
    refine lv_iload_n hx hb dJ6_getChars_ba4f3_22 rfl (lv_at hl 0 rfl) ?_
    refine lv_bipush (v := zI (-100)) hx hb dJ6_getChars_ba4f3_23 (by decide +kernel) ?_
    refine z_icmp_gt (tgt := 72) hx hb dJ6_getChars_ba4f3_25 (by decide) (by omega) (by omega) (fun cd25 => ?_) (fun cd25 => ?_)
    · skip
      refine lv_aload_n hx hb dJ6_getChars_ba4f3_72 rfl (lv_at hl 4 rfl) ?_
      refine lv_iinc (v := zI (i + (-1))) (lv' := [(5, .int (zI (i + (-1)))), (0, .int (zI (-z))), (6, .int (zI (0))), (1, .int (zI (i))), (2, .ref (v))]) hx hb dJ6_getChars_ba4f3_73 hl (k := 2) rfl (zI_add _ _) (by decide) rfl (fun ls hl => ?_)
      refine lv_iload hx hb dJ6_getChars_ba4f3_76 (lv_at hl 0 rfl) ?_
      refine va_gets hx hb hZ.2.2.1 hS hown k83 (fun _ h9 => h9) dJ6_getChars_ba4f3_78 ?_
      refine lv_iload_n hx hb dJ6_getChars_ba4f3_81 rfl (lv_at hl 1 rfl) ?_
      refine z_ineg hx hb dJ6_getChars_ba4f3_82 ?_
      refine va_tb hx hb hZ.2.2.2.1 hS (zI_in (by omega) (by omega) (by omega)) rfl dJ6_getChars_ba4f3_83 ?_
      refine va_bast hx hb hK hP hD hS kv 0 ev rfl (i := zI (i + (-1))) (zI_in (by omega) (by omega) (by omega)) dJ6_getChars_ba4f3_84 (fun H locs hP hD hS => ?_)
      have hF84 := jF_upd hF (zI (i + (-1))).toNatClampNeg (J.2.2.2.1 (zI (-(-z))).toNatClampNeg)
      generalize upd f (zI (i + (-1))).toNatClampNeg (vp_nar .byte (J.2.2.2.1 (zI (-(-z))).toNatClampNeg)) = f84 at hF84 hP hD
      obtain ⟨w84, ew84⟩ : ∃ z9 : va_W, z9 = ws.set kv ((v, .inl (J.1, 16, .inl f84)) : Nat × va_E) := ⟨_, rfl⟩
      have hP : va_P D vwCl (ws.set kv ((v, .inl (J.1, 16, .inl f84)) : Nat × va_E)) H := hP
      have hD : va_D A (ws.set kv ((v, .inl (J.1, 16, .inl f84)) : Nat × va_E)) := hD
      rw [← ew84] at hP hD
      have ev_w84 : w84[kv]? = some ((v, .inl (J.1, 16, .inl f84)) : Nat × va_E) := by rw [ew84]; exact js_eq ev
      refine lv_iload_n hx hb dJ6_getChars_ba4f3_85 rfl (lv_at hl 1 rfl) ?_
      refine lv_bipush (v := zI (-9)) hx hb dJ6_getChars_ba4f3_86 (by decide +kernel) ?_
      refine z_icmp_ge (tgt := 104) hx hb dJ6_getChars_ba4f3_88 (by decide) (by omega) (by omega) (fun cd88 => ?_) (fun cd88 => ?_)
      · skip
        refine lv_iload hx hb dJ6_getChars_ba4f3_104 (lv_at hl 2 rfl) ?_
        refine z_if_eq (tgt := 118) hx hb dJ6_getChars_ba4f3_106 (by decide) (by decide) (fun _ => ?_) (fun cd106 => absurd cd106 (by decide))
        refine lv_iload hx hb dJ6_getChars_ba4f3_118 (lv_at hl 0 rfl) ?_
        have eW : w84 = (ws.set kv ((v, .inl (J.1, 16, .inl f84)) : Nat × va_E)) := by rw [ew84]
        rw [eW] at hP hD
        exact W.iret (v := zI (i + (-1))) hx hb hr (fun t9 ht hW => ⟨⟨_, f84, rfl, hF84, by show va_P D vwCl _ t9.heap; rw [ht]; exact hP, hD⟩, hS.F ht⟩) hS.2.2 dJ6_getChars_ba4f3_120
      · skip
        refine lv_aload_n hx hb dJ6_getChars_ba4f3_91 rfl (lv_at hl 4 rfl) ?_
        refine lv_iinc (v := zI (i + (-1) + (-1))) (lv' := [(5, .int (zI (i + (-1) + (-1)))), (0, .int (zI (-z))), (6, .int (zI (0))), (1, .int (zI (i))), (2, .ref (v))]) hx hb dJ6_getChars_ba4f3_92 hl (k := 0) rfl (zI_add _ _) (by decide) rfl (fun ls hl => ?_)
        refine lv_iload hx hb dJ6_getChars_ba4f3_95 (lv_at hl 0 rfl) ?_
        refine va_gets hx hb hZ.2.2.2.2.1 hS hown k87 (fun _ h9 => h9) dJ6_getChars_ba4f3_97 ?_
        refine lv_iload_n hx hb dJ6_getChars_ba4f3_100 rfl (lv_at hl 1 rfl) ?_
        refine z_ineg hx hb dJ6_getChars_ba4f3_101 ?_
        refine va_tb hx hb hZ.2.2.2.2.2 hS (zI_in (by omega) (by omega) (by omega)) rfl dJ6_getChars_ba4f3_102 ?_
        refine va_bast hx hb hK hP hD hS kv 0 ev_w84 rfl (i := zI (i + (-1) + (-1))) (zI_in (by omega) (by omega) (by omega)) dJ6_getChars_ba4f3_103 (fun H locs hP hD hS => ?_)
        have hF103 := jF_upd hF84 (zI (i + (-1) + (-1))).toNatClampNeg (J.2.2.2.2 (zI (-(-z))).toNatClampNeg)
        generalize upd f84 (zI (i + (-1) + (-1))).toNatClampNeg (vp_nar .byte (J.2.2.2.2 (zI (-(-z))).toNatClampNeg)) = f103 at hF103 hP hD
        obtain ⟨w103, ew103⟩ : ∃ z9 : va_W, z9 = w84.set kv ((v, .inl (J.1, 16, .inl f103)) : Nat × va_E) := ⟨_, rfl⟩
        have hP : va_P D vwCl (w84.set kv ((v, .inl (J.1, 16, .inl f103)) : Nat × va_E)) H := hP
        have hD : va_D A (w84.set kv ((v, .inl (J.1, 16, .inl f103)) : Nat × va_E)) := hD
        rw [← ew103] at hP hD
        have ev_w103 : w103[kv]? = some ((v, .inl (J.1, 16, .inl f103)) : Nat × va_E) := by rw [ew103]; exact js_eq ev_w84
        refine lv_iload hx hb dJ6_getChars_ba4f3_104 (lv_at hl 2 rfl) ?_
        refine z_if_eq (tgt := 118) hx hb dJ6_getChars_ba4f3_106 (by decide) (by decide) (fun _ => ?_) (fun cd106 => absurd cd106 (by decide))
        refine lv_iload hx hb dJ6_getChars_ba4f3_118 (lv_at hl 0 rfl) ?_
        have eW : w103 = (ws.set kv ((v, .inl (J.1, 16, .inl f103)) : Nat × va_E)) := by rw [ew103, ew84]; exact List.set_set ..
        rw [eW] at hP hD
        exact W.iret (v := zI (i + (-1) + (-1))) hx hb hr (fun t9 ht hW => ⟨⟨_, f103, rfl, hF103, by show va_P D vwCl _ t9.heap; rw [ht]; exact hP, hD⟩, hS.F ht⟩) hS.2.2 dJ6_getChars_ba4f3_120
    · skip
      exfalso; omega
  · skip
    exfalso; omega

set_option maxHeartbeats 1000000 in
set_option maxRecDepth 100000 in
/-- J5_append_3fe6f -/
theorem c_J5_append_3fe6f (l : Launch) (D : va_G) (J : jT) (A : Nat → Prop) (sz : Nat) (hA : ∀ y : Nat, sz ≤ y → A y) (ws : va_W) (x : Nat) (v : Nat) (n : Int) (f : Nat → Int32) (ch : Int) (kx : Nat) (ex : ws[kx]? = some ((x, .inr (1, [.ref (v), .int (zI (0)), .int (zI (0)), .int (zI (n))])) : Nat × va_E)) (kv : Nat) (ev : ws[kv]? = some ((v, .inl (J.1, 16, .inl f)) : Nat × va_E)) (hn : 0 ≤ n ∧ n ≤ 15) (hc : 0 ≤ ch ∧ ch ≤ 127) (hF : jF f) : Met l yJ5_append_3fe6f wsJ5_append_3fe6f ({ frames := 8, cells := 0, slots := 0, locals := 200 }) (va_Pc [.ref (x), .int (zI (ch))] (fun U => U.heap.size = sz ∧ jW D J A ws U)) (va_Qr (fun (u : (Nat → Int32)) => jF u) (fun u y9 t => y9 = x ∧ va_P D vwCl ((ws.set kx ((x, .inr (1, [.ref (v), .int (zI (0)), .int (zI (0)), .int (zI (n + 1))])) : Nat × va_E)).set kv ((v, .inl (J.1, 16, .inl u)) : Nat × va_E)) t.heap ∧ va_D A ((ws.set kx ((x, .inr (1, [.ref (v), .int (zI (0)), .int (zI (0)), .int (zI (n + 1))])) : Nat × va_E)).set kv ((v, .inl (J.1, 16, .inl u)) : Nat × va_E))) A) 0 0 A := by
  refine Met.ofW (cc := cJ5_append_3fe6f) (maxL := 2) (ret := (some (.object "java/lang/AbstractStringBuilder"))) (by decide) rfl ?_
  intro p e s m args below meth c s₁ B hml hpc0
  obtain ⟨rfl, hsz, hP, hD, hZ⟩ := hpc0
  have hx := B.exec
  have hb := B.bytes
  have hr := B.returns
  have hts := atoms_spec (ws := wsJ5_append_3fe6f) B.pre
  have hown : s.vm.findClass RJ5 = some m.cls := findClass_of_methodNamed B.named
  have hlocks := B.notSynchronized
  have hin : meth.name = "append" := (name_of_methodNamed B.named B.method).1
  subst hsz
  have hK := hZ.1
  have hS : va_S A s.heap s.heap [] := va_S.rf
  have hk0 : ∀ x : Nat, x < s.heap.size → s.heap[x]? = s.heap[x]? := fun _ _ => rfl
  have hl := lv_entry ([.ref (x), .int (zI (ch))]) (n := 2) (Nat.le_of_ble_eq_true rfl)
  rw [lg_entry_eq]
  generalize (lg_sl ([.ref (x), .int (zI (ch))]) ++ List.replicate (2 - (lg_sl ([.ref (x), .int (zI (ch))])).length) Slot.unset).toArray = ls at hl ⊢
  have hl : lv_has ls 2 [(0, .ref (x)), (1, .int (zI (ch)))] := hl
  have k15 := hts (.fieldLink RJ5 15 "java/lang/AbstractStringBuilder" "value" "[B") (by decide +kernel)
  have k79 := hts (.fieldLink RJ5 79 "java/lang/AbstractStringBuilder" "count" "I") (by decide +kernel)
  have inJ4 : ∀ w ∈ u_ws RJ4 TJ4 4, w ∈ wsJ5_append_3fe6f := by decide +kernel
  refine lv_aload_n hx hb dJ5_append_3fe6f_0 rfl (lv_at hl 0 rfl) ?_
  refine lv_aload_n hx hb dJ5_append_3fe6f_1 rfl (lv_at hl 0 rfl) ?_
  refine va_get (D := D) (ci := 1) (v := .int (zI (n))) (C := RJ4) (T := TJ4) (N := 4) hx hb hts inJ4 hown hK hP kx ex rfl 3 (by decide) k79 (fun _ h9 => h9) rfl dJ5_append_3fe6f_2 ?_
  refine lv_iconst (v := zI 1) hx hb dJ5_append_3fe6f_5 rfl ?_
  refine z_iadd hx hb dJ5_append_3fe6f_6 ?_
  refine va_callv (va_runU (As := [.int (zI (n + 1))]) (rest := []) ⟨hx, hb, hml, hown, hts⟩ (c_J5_ensureCapacityInternal_d00df l D J A s.heap.size (fun y h => hA y (Nat.le_trans hS.1 h)) ws x v n f (n + 1) kx ex kv ev (by omega)) (va_cwU 1 hts gJ5_append_3fe6f_J5_ensureCapacityInternal_d00df_u100J4 rfl rfl rfl rfl (by decide +kernel) ⟨Nat.le_of_ble_eq_true rfl, Nat.le_of_ble_eq_true rfl⟩) ⟨jW_blind, va_recv hK hP (ci := 1) (q0 := kx) rfl ex, fun U hU hW => ⟨rfl, by rw [hU], jW_mk hP hD hZ hS hU hW⟩⟩ rfl rfl hl.1 rfl (lv_room (Nat.le_of_ble_eq_true rfl)) dJ5_append_3fe6f_7 ⟨(show 0 + 0 ≤ 0 by omega), (show 0 + 0 ≤ 0 by omega)⟩) hS (fun _ _ h => h.elim) (fun _ h => h) (fun u9 t9 H locs ht hvm hw hB hz hk hS1 => ?_)
  have hP := hP.kept (fun k x hk9 => hk x.1 ((hP k x hk9).lt) (fun h => h))
  have hk0 : ∀ x : Nat, x < s.heap.size → H[x]? = s.heap[x]? := fun x h9 => (hk x (Nat.lt_of_lt_of_le h9 hS.1) (fun h => h)).trans (hk0 x h9)
  have hS := hS1
  refine lv_aload_n hx hb dJ5_append_3fe6f_10 rfl (lv_at hl 0 rfl) ?_
  refine va_calli (va_runU (As := []) (rest := []) ⟨hx, hb, hml, hown, hts⟩ (c_J5_isLatin1_aae02 l D J A H.size (fun y h => hA y (Nat.le_trans hS.1 h)) ws x v n kx ex) (va_cwU 0 hts gJ5_append_3fe6f_J5_isLatin1_aae02_u83J4 rfl rfl rfl rfl (by decide +kernel) ⟨Nat.le_of_ble_eq_true rfl, Nat.le_of_ble_eq_true rfl⟩) ⟨jW_blind, va_recv hK hP (ci := 1) (q0 := kx) rfl ex, fun U hU hW => ⟨rfl, by rw [hU], jW_mk hP hD hZ hS hU hW⟩⟩ rfl rfl hl.1 rfl (lv_room (Nat.le_of_ble_eq_true rfl)) dJ5_append_3fe6f_11 ⟨(show 0 + 0 + 0 ≤ 0 by omega), (show 0 + 0 + 0 ≤ 0 by omega)⟩) hS (fun _ _ h => h.elim) (fun _ h => h) (fun rv9 u9 t9 H locs ht hvm hw hB hz hk hS1 => ?_)
  have hP := hP.kept (fun k x hk9 => hk x.1 ((hP k x hk9).lt) (fun h => h))
  have hk0 : ∀ x : Nat, x < s.heap.size → H[x]? = s.heap[x]? := fun x h9 => (hk x (Nat.lt_of_lt_of_le h9 hS.1) (fun h => h)).trans (hk0 x h9)
  have hS := hS1
  obtain rfl := hw
  refine z_if_eq (tgt := 45) hx hb dJ5_append_3fe6f_14 (by decide) (by decide) (fun cd14 => absurd cd14 (by decide)) (fun _ => ?_)
  refine lv_iload_n hx hb dJ5_append_3fe6f_17 rfl (lv_at hl 1 rfl) ?_
  refine va_calli (va_runS (As := [.int (zI (ch))]) (rest := []) ⟨hx, hb, hml, hown, hts⟩ (c_J1_canEncode_fc78d l ch (by omega)) (va_cwS 1 hts gJ5_append_3fe6f_J1_canEncode_fc78d rfl rfl rfl (by decide +kernel) ⟨Nat.le_of_ble_eq_true rfl, Nat.le_of_ble_eq_true rfl⟩) ⟨fun _ _ _ _ h => h, fun U hU hW => ⟨rfl, trivial⟩⟩ rfl rfl hl.1 rfl (lv_room (Nat.le_of_ble_eq_true rfl)) dJ5_append_3fe6f_18 ⟨(show 0 + 0 + 0 + 0 ≤ 0 by omega), (show 0 + 0 + 0 + 0 ≤ 0 by omega)⟩) hS (fun _ _ h => h.elim) (fun _ h => h.elim) (fun rv9 u9 t9 H locs ht hvm hw hB hz hk hS1 => ?_)
  have hP := hP.kept (fun k x hk9 => hk x.1 ((hP k x hk9).lt) (fun h => h))
  have hk0 : ∀ x : Nat, x < s.heap.size → H[x]? = s.heap[x]? := fun x h9 => (hk x (Nat.lt_of_lt_of_le h9 hS.1) (fun h => h)).trans (hk0 x h9)
  have hS := hS1
  obtain rfl := hw
  refine z_if_eq (tgt := 45) hx hb dJ5_append_3fe6f_21 (by decide) (by decide) (fun cd21 => absurd cd21 (by decide)) (fun _ => ?_)
  refine lv_aload_n hx hb dJ5_append_3fe6f_24 rfl (lv_at hl 0 rfl) ?_
  refine va_get (D := D) (ci := 1) (v := .ref (v)) (C := RJ4) (T := TJ4) (N := 4) hx hb hts inJ4 hown hK hP kx ex rfl 0 (by decide) k15 (fun _ h9 => h9) rfl dJ5_append_3fe6f_25 ?_
  refine lv_aload_n hx hb dJ5_append_3fe6f_28 rfl (lv_at hl 0 rfl) ?_
  refine lv_dup hx hb dJ5_append_3fe6f_29 rfl ?_
  refine va_get (D := D) (ci := 1) (v := .int (zI (n))) (C := RJ4) (T := TJ4) (N := 4) hx hb hts inJ4 hown hK hP kx ex rfl 3 (by decide) k79 (fun _ h9 => h9) rfl dJ5_append_3fe6f_30 ?_
  refine lv_dup_x1 hx hb dJ5_append_3fe6f_33 rfl rfl ?_
  refine lv_iconst (v := zI 1) hx hb dJ5_append_3fe6f_34 rfl ?_
  refine z_iadd hx hb dJ5_append_3fe6f_35 ?_
  refine va_put (D := D) (ci := 1) (v := .int (zI (n + 1))) (ty := .int) (C := RJ4) (T := TJ4) (N := 4) hx hb hts inJ4 tyJ4 tyJ4_ok nmJ4 hown hK hP hD hS kx ex rfl 3 (by decide) k79 (fun _ h9 => h9) rfl (by decide +kernel) rfl rfl (Nat.le_of_ble_eq_true rfl) dJ5_append_3fe6f_36 (fun H locs hP hD hS => ?_)
  obtain ⟨w36, ew36⟩ : ∃ z9 : va_W, z9 = ws.set kx ((x, .inr (1, [.ref (v), .int (zI (0)), .int (zI (0)), .int (zI (n + 1))])) : Nat × va_E) := ⟨_, rfl⟩
  have hP : va_P D vwCl (ws.set kx ((x, .inr (1, [.ref (v), .int (zI (0)), .int (zI (0)), .int (zI (n + 1))])) : Nat × va_E)) H := hP
  have hD : va_D A (ws.set kx ((x, .inr (1, [.ref (v), .int (zI (0)), .int (zI (0)), .int (zI (n + 1))])) : Nat × va_E)) := hD
  rw [← ew36] at hP hD
  have ex_w36 : w36[kx]? = some ((x, .inr (1, [.ref (v), .int (zI (0)), .int (zI (0)), .int (zI (n + 1))])) : Nat × va_E) := by rw [ew36]; exact js_eq ex
  have ev_w36 : w36[kv]? = some ((v, .inl (J.1, 16, .inl f)) : Nat × va_E) := by rw [ew36]; exact js_ne ex ev (by intro h9; cases h9)
  refine lv_iload_n hx hb dJ5_append_3fe6f_39 rfl (lv_at hl 1 rfl) ?_
  refine lv_i2b hx hb dJ5_append_3fe6f_40 rfl ?_
  refine va_bast hx hb hK hP hD hS kv 0 ev_w36 rfl (i := zI (n)) (zI_in (by omega) (by omega) (by omega)) dJ5_append_3fe6f_41 (fun H locs hP hD hS => ?_)
  have hF41 := jF_upd hF (zI (n)).toNatClampNeg ((zI (ch)).toInt8.toInt32)
  generalize upd f (zI (n)).toNatClampNeg (vp_nar .byte ((zI (ch)).toInt8.toInt32)) = f41 at hF41 hP hD
  obtain ⟨w41, ew41⟩ : ∃ z9 : va_W, z9 = w36.set kv ((v, .inl (J.1, 16, .inl f41)) : Nat × va_E) := ⟨_, rfl⟩
  have hP : va_P D vwCl (w36.set kv ((v, .inl (J.1, 16, .inl f41)) : Nat × va_E)) H := hP
  have hD : va_D A (w36.set kv ((v, .inl (J.1, 16, .inl f41)) : Nat × va_E)) := hD
  rw [← ew41] at hP hD
  have ex_w41 : w41[kx]? = some ((x, .inr (1, [.ref (v), .int (zI (0)), .int (zI (0)), .int (zI (n + 1))])) : Nat × va_E) := by rw [ew41]; exact js_ne ev_w36 ex_w36 (by intro h9; cases h9)
  have ev_w41 : w41[kv]? = some ((v, .inl (J.1, 16, .inl f41)) : Nat × va_E) := by rw [ew41]; exact js_eq ev_w36
  refine lv_goto (tgt := 75) hx hb dJ5_append_3fe6f_42 (by decide) ?_
  refine lv_aload_n hx hb dJ5_append_3fe6f_75 rfl (lv_at hl 0 rfl) ?_
  refine W.widen (k := 0) (n := 0) (by omega) (by omega) ?_
  have eW : w41 = ((ws.set kx ((x, .inr (1, [.ref (v), .int (zI (0)), .int (zI (0)), .int (zI (n + 1))])) : Nat × va_E)).set kv ((v, .inl (J.1, 16, .inl f41)) : Nat × va_E)) := by rw [ew41, ew36]
  rw [eW] at hP hD
  exact W.aret (v := .ref (x)) hx hb hr (Or.inl ⟨_, rfl⟩) (Or.inr ⟨_, rfl⟩) (fun t9 ht hW => ⟨⟨f41, _, rfl, hF41, rfl, by show va_P D vwCl _ t9.heap; rw [ht]; exact hP, hD⟩, hS.F ht⟩) hS.2.2 dJ5_append_3fe6f_76

set_option maxHeartbeats 1000000 in
set_option maxRecDepth 100000 in
/-- J4_append_cf468 -/
theorem c_J4_append_cf468 (l : Launch) (D : va_G) (J : jT) (A : Nat → Prop) (sz : Nat) (hA : ∀ y : Nat, sz ≤ y → A y) (ws : va_W) (x : Nat) (v : Nat) (n : Int) (f : Nat → Int32) (ch : Int) (kx : Nat) (ex : ws[kx]? = some ((x, .inr (1, [.ref (v), .int (zI (0)), .int (zI (0)), .int (zI (n))])) : Nat × va_E)) (kv : Nat) (ev : ws[kv]? = some ((v, .inl (J.1, 16, .inl f)) : Nat × va_E)) (hn : 0 ≤ n ∧ n ≤ 15) (hc : 0 ≤ ch ∧ ch ≤ 127) (hF : jF f) : Met l yJ4_append_cf468 wsJ4_append_cf468 ({ frames := 9, cells := 0, slots := 0, locals := 300 }) (va_Pc [.ref (x), .int (zI (ch))] (fun U => U.heap.size = sz ∧ jW D J A ws U)) (va_Qr (fun (u : (Nat → Int32)) => jF u) (fun u y9 t => y9 = x ∧ va_P D vwCl ((ws.set kx ((x, .inr (1, [.ref (v), .int (zI (0)), .int (zI (0)), .int (zI (n + 1))])) : Nat × va_E)).set kv ((v, .inl (J.1, 16, .inl u)) : Nat × va_E)) t.heap ∧ va_D A ((ws.set kx ((x, .inr (1, [.ref (v), .int (zI (0)), .int (zI (0)), .int (zI (n + 1))])) : Nat × va_E)).set kv ((v, .inl (J.1, 16, .inl u)) : Nat × va_E))) A) 0 0 A := by
  refine Met.ofW (cc := cJ4_append_cf468) (maxL := 2) (ret := (some (.object "java/lang/StringBuilder"))) (by decide) rfl ?_
  intro p e s m args below meth c s₁ B hml hpc0
  obtain ⟨rfl, hsz, hP, hD, hZ⟩ := hpc0
  have hx := B.exec
  have hb := B.bytes
  have hr := B.returns
  have hts := atoms_spec (ws := wsJ4_append_cf468) B.pre
  have hown : s.vm.findClass RJ4 = some m.cls := findClass_of_methodNamed B.named
  have hlocks := B.notSynchronized
  have hin : meth.name = "append" := (name_of_methodNamed B.named B.method).1
  subst hsz
  have hK := hZ.1
  have hS : va_S A s.heap s.heap [] := va_S.rf
  have hk0 : ∀ x : Nat, x < s.heap.size → s.heap[x]? = s.heap[x]? := fun _ _ => rfl
  have hl := lv_entry ([.ref (x), .int (zI (ch))]) (n := 2) (Nat.le_of_ble_eq_true rfl)
  rw [lg_entry_eq]
  generalize (lg_sl ([.ref (x), .int (zI (ch))]) ++ List.replicate (2 - (lg_sl ([.ref (x), .int (zI (ch))])).length) Slot.unset).toArray = ls at hl ⊢
  have hl : lv_has ls 2 [(0, .ref (x)), (1, .int (zI (ch)))] := hl
  have inJ4 : ∀ w ∈ u_ws RJ4 TJ4 4, w ∈ wsJ4_append_cf468 := by decide +kernel
  refine lv_aload_n hx hb dJ4_append_cf468_0 rfl (lv_at hl 0 rfl) ?_
  refine lv_iload_n hx hb dJ4_append_cf468_1 rfl (lv_at hl 1 rfl) ?_
  refine va_callr (va_runSU (hK.1 1 _ rfl).2 (As := [.int (zI (ch))]) (rest := []) ⟨hx, hb, hml, hown, hts⟩ (c_J5_append_3fe6f l D J A s.heap.size (fun y h => hA y (Nat.le_trans hS.1 h)) ws x v n f ch kx ex kv ev (by omega) (by omega) hF) (va_cwSU 1 hts gJ4_append_cf468_J5_append_3fe6f_s50 rfl rfl rfl (by decide +kernel) ⟨Nat.le_of_ble_eq_true rfl, Nat.le_of_ble_eq_true rfl⟩) ⟨jW_blind, va_recv hK hP (ci := 1) (q0 := kx) rfl ex, fun U hU hW => ⟨rfl, by rw [hU], jW_mk hP hD hZ hS hU hW⟩⟩ rfl rfl hl.1 rfl (lv_room (Nat.le_of_ble_eq_true rfl)) dJ4_append_cf468_2 ⟨(show 0 + 0 ≤ 0 by omega), (show 0 + 0 ≤ 0 by omega)⟩) hS (fun _ _ h => h) (fun _ h => h) (fun u9 ra9 t9 H locs ht hvm hw hB hz hk hS1 => ?_)
  have eu9 := True.intro
  obtain ⟨u2, eu2⟩ : ∃ z, z = u9 := ⟨u9, rfl⟩
  rw [← eu2] at hB
  try rw [← eu2] at hw
  obtain ⟨hx9, hP9, hD9⟩ := hB
  rw [ht] at hP9
  have hP := hP9
  have hD := hD9
  have hS := hS1
  have hw2 := hw
  try dsimp only at hw2 hP hD
  obtain ⟨w2a, ew2a⟩ : ∃ z9 : va_W, z9 = ws.set kx ((x, .inr (1, [.ref (v), .int (zI (0)), .int (zI (0)), .int (zI (n + 1))])) : Nat × va_E) := ⟨_, rfl⟩
  rw [← ew2a] at hP hD
  have ex_w2a : w2a[kx]? = some ((x, .inr (1, [.ref (v), .int (zI (0)), .int (zI (0)), .int (zI (n + 1))])) : Nat × va_E) := by rw [ew2a]; exact js_eq ex
  have ev_w2a : w2a[kv]? = some ((v, .inl (J.1, 16, .inl f)) : Nat × va_E) := by rw [ew2a]; exact js_ne ex ev (by intro h9; cases h9)
  obtain ⟨w2b, ew2b⟩ : ∃ z9 : va_W, z9 = w2a.set kv ((v, .inl (J.1, 16, .inl u2)) : Nat × va_E) := ⟨_, rfl⟩
  rw [← ew2b] at hP hD
  have ex_w2b : w2b[kx]? = some ((x, .inr (1, [.ref (v), .int (zI (0)), .int (zI (0)), .int (zI (n + 1))])) : Nat × va_E) := by rw [ew2b]; exact js_ne ev_w2a ex_w2a (by intro h9; cases h9)
  have ev_w2b : w2b[kv]? = some ((v, .inl (J.1, 16, .inl u2)) : Nat × va_E) := by rw [ew2b]; exact js_eq ev_w2a
  rw [hx9]
  refine lv_pop hx hb dJ4_append_cf468_5 rfl ?_
  refine lv_aload_n hx hb dJ4_append_cf468_6 rfl (lv_at hl 0 rfl) ?_
  refine W.widen (k := 0) (n := 0) (by omega) (by omega) ?_
  have eW : w2b = ((ws.set kx ((x, .inr (1, [.ref (v), .int (zI (0)), .int (zI (0)), .int (zI (n + 1))])) : Nat × va_E)).set kv ((v, .inl (J.1, 16, .inl u2)) : Nat × va_E)) := by rw [ew2b, ew2a]
  rw [eW] at hP hD
  exact W.aret (v := .ref (x)) hx hb hr (Or.inl ⟨_, rfl⟩) (Or.inr ⟨_, rfl⟩) (fun t9 ht hW => ⟨⟨u2, _, rfl, hw2, rfl, by show va_P D vwCl _ t9.heap; rw [ht]; exact hP, hD⟩, hS.F ht⟩) hS.2.2 dJ4_append_cf468_7

set_option maxHeartbeats 1000000 in
set_option maxRecDepth 100000 in
/-- J5_append_c97b9 -/
theorem c_J5_append_c97b9 (l : Launch) (D : va_G) (J : jT) (A : Nat → Prop) (sz : Nat) (hA : ∀ y : Nat, sz ≤ y → A y) (ws : va_W) (x : Nat) (v : Nat) (n : Int) (f : Nat → Int32) (z : Int) (kx : Nat) (ex : ws[kx]? = some ((x, .inr (1, [.ref (v), .int (zI (0)), .int (zI (0)), .int (zI (n))])) : Nat × va_E)) (kv : Nat) (ev : ws[kv]? = some ((v, .inl (J.1, 16, .inl f)) : Nat × va_E)) (hn : 0 ≤ n ∧ n + (if z < 10 then 1 else 2) ≤ 16) (hz : 0 ≤ z ∧ z ≤ 99) (hF : jF f) : Met l yJ5_append_c97b9 wsJ5_append_c97b9 ({ frames := 8, cells := 0, slots := 0, locals := 200 }) (va_Pc [.ref (x), .int (zI (z))] (fun U => U.heap.size = sz ∧ jW D J A ws U)) (va_Qr (fun (u : (Nat → Int32)) => jF u) (fun u y9 t => y9 = x ∧ va_P D vwCl ((ws.set kv ((v, .inl (J.1, 16, .inl u)) : Nat × va_E)).set kx ((x, .inr (1, [.ref (v), .int (zI (0)), .int (zI (0)), .int (zI (n + (if z < 10 then 1 else 2)))])) : Nat × va_E)) t.heap ∧ va_D A ((ws.set kv ((v, .inl (J.1, 16, .inl u)) : Nat × va_E)).set kx ((x, .inr (1, [.ref (v), .int (zI (0)), .int (zI (0)), .int (zI (n + (if z < 10 then 1 else 2)))])) : Nat × va_E))) A) 0 0 A := by
  refine Met.ofW (cc := cJ5_append_c97b9) (maxL := 4) (ret := (some (.object "java/lang/AbstractStringBuilder"))) (by decide) rfl ?_
  intro p e s m args below meth c s₁ B hml hpc0
  obtain ⟨rfl, hsz, hP, hD, hZ⟩ := hpc0
  have hx := B.exec
  have hb := B.bytes
  have hr := B.returns
  have hts := atoms_spec (ws := wsJ5_append_c97b9) B.pre
  have hown : s.vm.findClass RJ5 = some m.cls := findClass_of_methodNamed B.named
  have hlocks := B.notSynchronized
  have hin : meth.name = "append" := (name_of_methodNamed B.named B.method).1
  subst hsz
  have hK := hZ.1
  have hS : va_S A s.heap s.heap [] := va_S.rf
  have hk0 : ∀ x : Nat, x < s.heap.size → s.heap[x]? = s.heap[x]? := fun _ _ => rfl
  have hl := lv_entry ([.ref (x), .int (zI (z))]) (n := 4) (Nat.le_of_ble_eq_true rfl)
  rw [lg_entry_eq]
  generalize (lg_sl ([.ref (x), .int (zI (z))]) ++ List.replicate (4 - (lg_sl ([.ref (x), .int (zI (z))])).length) Slot.unset).toArray = ls at hl ⊢
  have hl : lv_has ls 4 [(0, .ref (x)), (1, .int (zI (z)))] := hl
  have k15 := hts (.fieldLink RJ5 15 "java/lang/AbstractStringBuilder" "value" "[B") (by decide +kernel)
  have k79 := hts (.fieldLink RJ5 79 "java/lang/AbstractStringBuilder" "count" "I") (by decide +kernel)
  have inJ4 : ∀ w ∈ u_ws RJ4 TJ4 4, w ∈ wsJ5_append_c97b9 := by decide +kernel
  have hdg : 1 ≤ (if z < 10 then 1 else 2) ∧ (if z < 10 then 1 else 2) ≤ 2 ∧ (z < 10 → (if z < 10 then 1 else 2) = 1) ∧ (10 ≤ z → (if z < 10 then 1 else 2) = 2) := by split <;> omega
  refine lv_aload_n hx hb dJ5_append_c97b9_0 rfl (lv_at hl 0 rfl) ?_
  refine va_get (D := D) (ci := 1) (v := .int (zI (n))) (C := RJ4) (T := TJ4) (N := 4) hx hb hts inJ4 hown hK hP kx ex rfl 3 (by decide) k79 (fun _ h9 => h9) rfl dJ5_append_c97b9_1 ?_
  refine lv_istore_n (lv' := [(2, .int (zI (n))), (0, .ref (x)), (1, .int (zI (z)))]) hx hb dJ5_append_c97b9_4 rfl hl (by decide) rfl (fun ls hl => ?_)
  refine lv_iload_n hx hb dJ5_append_c97b9_5 rfl (lv_at hl 0 rfl) ?_
  refine lv_iload_n hx hb dJ5_append_c97b9_6 rfl (lv_at hl 2 rfl) ?_
  refine va_calli (va_runS (As := [.int (zI (z))]) (rest := [.int (zI (n))]) ⟨hx, hb, hml, hown, hts⟩ (c_J6_stringSize_0f7a4 l z (by omega)) (va_cwS 1 hts gJ5_append_c97b9_J6_stringSize_0f7a4 rfl rfl rfl (by decide +kernel) ⟨Nat.le_of_ble_eq_true rfl, Nat.le_of_ble_eq_true rfl⟩) ⟨fun _ _ _ _ h => h, fun U hU hW => ⟨rfl, trivial⟩⟩ rfl rfl hl.1 rfl (lv_room (Nat.le_of_ble_eq_true rfl)) dJ5_append_c97b9_7 ⟨(show 0 + 0 ≤ 0 by omega), (show 0 + 0 ≤ 0 by omega)⟩) hS (fun _ _ h => h.elim) (fun _ h => h.elim) (fun rv9 u9 t9 H locs ht hvm hw hB hz hk hS1 => ?_)
  have hP := hP.kept (fun k x hk9 => hk x.1 ((hP k x hk9).lt) (fun h => h))
  have hk0 : ∀ x : Nat, x < s.heap.size → H[x]? = s.heap[x]? := fun x h9 => (hk x (Nat.lt_of_lt_of_le h9 hS.1) (fun h => h)).trans (hk0 x h9)
  have hS := hS1
  obtain rfl := hw
  refine z_iadd hx hb dJ5_append_c97b9_10 ?_
  refine lv_istore_n (lv' := [(3, .int (zI (n + (if z < 10 then 1 else 2)))), (2, .int (zI (n))), (0, .ref (x)), (1, .int (zI (z)))]) hx hb dJ5_append_c97b9_11 rfl hl (by decide) rfl (fun ls hl => ?_)
  refine lv_aload_n hx hb dJ5_append_c97b9_12 rfl (lv_at hl 2 rfl) ?_
  refine lv_iload_n hx hb dJ5_append_c97b9_13 rfl (lv_at hl 0 rfl) ?_
  refine va_callv (va_runU (As := [.int (zI (n + (if z < 10 then 1 else 2)))]) (rest := []) ⟨hx, hb, hml, hown, hts⟩ (c_J5_ensureCapacityInternal_d00df l D J A H.size (fun y h => hA y (Nat.le_trans hS.1 h)) ws x v n f (n + (if z < 10 then 1 else 2)) kx ex kv ev (by omega)) (va_cwU 1 hts gJ5_append_c97b9_J5_ensureCapacityInternal_d00df_u100J4 rfl rfl rfl rfl (by decide +kernel) ⟨Nat.le_of_ble_eq_true rfl, Nat.le_of_ble_eq_true rfl⟩) ⟨jW_blind, va_recv hK hP (ci := 1) (q0 := kx) rfl ex, fun U hU hW => ⟨rfl, by rw [hU], jW_mk hP hD hZ hS hU hW⟩⟩ rfl rfl hl.1 rfl (lv_room (Nat.le_of_ble_eq_true rfl)) dJ5_append_c97b9_14 ⟨(show 0 + 0 + 0 ≤ 0 by omega), (show 0 + 0 + 0 ≤ 0 by omega)⟩) hS (fun _ _ h => h.elim) (fun _ h => h) (fun u9 t9 H locs ht hvm hw hB hz hk hS1 => ?_)
  have hP := hP.kept (fun k x hk9 => hk x.1 ((hP k x hk9).lt) (fun h => h))
  have hk0 : ∀ x : Nat, x < s.heap.size → H[x]? = s.heap[x]? := fun x h9 => (hk x (Nat.lt_of_lt_of_le h9 hS.1) (fun h => h)).trans (hk0 x h9)
  have hS := hS1
  refine lv_aload_n hx hb dJ5_append_c97b9_17 rfl (lv_at hl 2 rfl) ?_
  refine va_calli (va_runU (As := []) (rest := []) ⟨hx, hb, hml, hown, hts⟩ (c_J5_isLatin1_aae02 l D J A H.size (fun y h => hA y (Nat.le_trans hS.1 h)) ws x v n kx ex) (va_cwU 0 hts gJ5_append_c97b9_J5_isLatin1_aae02_u83J4 rfl rfl rfl rfl (by decide +kernel) ⟨Nat.le_of_ble_eq_true rfl, Nat.le_of_ble_eq_true rfl⟩) ⟨jW_blind, va_recv hK hP (ci := 1) (q0 := kx) rfl ex, fun U hU hW => ⟨rfl, by rw [hU], jW_mk hP hD hZ hS hU hW⟩⟩ rfl rfl hl.1 rfl (lv_room (Nat.le_of_ble_eq_true rfl)) dJ5_append_c97b9_18 ⟨(show 0 + 0 + 0 + 0 ≤ 0 by omega), (show 0 + 0 + 0 + 0 ≤ 0 by omega)⟩) hS (fun _ _ h => h.elim) (fun _ h => h) (fun rv9 u9 t9 H locs ht hvm hw hB hz hk hS1 => ?_)
  have hP := hP.kept (fun k x hk9 => hk x.1 ((hP k x hk9).lt) (fun h => h))
  have hk0 : ∀ x : Nat, x < s.heap.size → H[x]? = s.heap[x]? := fun x h9 => (hk x (Nat.lt_of_lt_of_le h9 hS.1) (fun h => h)).trans (hk0 x h9)
  have hS := hS1
  obtain rfl := hw
  refine z_if_eq (tgt := 37) hx hb dJ5_append_c97b9_21 (by decide) (by decide) (fun cd21 => absurd cd21 (by decide)) (fun _ => ?_)
  refine lv_iload_n hx hb dJ5_append_c97b9_24 rfl (lv_at hl 3 rfl) ?_
  refine lv_iload_n hx hb dJ5_append_c97b9_25 rfl (lv_at hl 0 rfl) ?_
  refine lv_aload_n hx hb dJ5_append_c97b9_26 rfl (lv_at hl 2 rfl) ?_
  refine va_get (D := D) (ci := 1) (v := .ref (v)) (C := RJ4) (T := TJ4) (N := 4) hx hb hts inJ4 hown hK hP kx ex rfl 0 (by decide) k15 (fun _ h9 => h9) rfl dJ5_append_c97b9_27 ?_
  refine va_calli (va_runS (As := [.int (zI (z)), .int (zI (n + (if z < 10 then 1 else 2))), .ref (v)]) (rest := []) ⟨hx, hb, hml, hown, hts⟩ (c_J6_getChars_ba4f3 l D J A H.size (fun y h => hA y (Nat.le_trans hS.1 h)) ws z (n + (if z < 10 then 1 else 2)) v f kv ev (by omega) (by omega) hF) (va_cwS 3 hts gJ5_append_c97b9_J6_getChars_ba4f3 rfl rfl rfl (by decide +kernel) ⟨Nat.le_of_ble_eq_true rfl, Nat.le_of_ble_eq_true rfl⟩) ⟨jW_blind, fun U hU hW => ⟨rfl, by rw [hU], jW_mk hP hD hZ hS hU hW⟩⟩ rfl rfl hl.1 rfl (lv_room (Nat.le_of_ble_eq_true rfl)) dJ5_append_c97b9_30 ⟨(show 0 + 0 + 0 + 0 + 0 ≤ 0 by omega), (show 0 + 0 + 0 + 0 + 0 ≤ 0 by omega)⟩) hS (fun _ _ h => h) (fun _ h => h) (fun rv9 u9 t9 H locs ht hvm hw hB hz hk hS1 => ?_)
  have eu9 := True.intro
  obtain ⟨u30, eu30⟩ : ∃ z, z = u9 := ⟨u9, rfl⟩
  rw [← eu30] at hB
  try rw [← eu30] at hw
  obtain ⟨hP9, hD9⟩ := hB
  rw [ht] at hP9
  have hP := hP9
  have hD := hD9
  have hS := hS1
  have hw30 := hw
  try dsimp only at hw30 hP hD
  obtain ⟨w30a, ew30a⟩ : ∃ z9 : va_W, z9 = ws.set kv ((v, .inl (J.1, 16, .inl u30)) : Nat × va_E) := ⟨_, rfl⟩
  rw [← ew30a] at hP hD
  have ex_w30a : w30a[kx]? = some ((x, .inr (1, [.ref (v), .int (zI (0)), .int (zI (0)), .int (zI (n))])) : Nat × va_E) := by rw [ew30a]; exact js_ne ev ex (by intro h9; cases h9)
  have ev_w30a : w30a[kv]? = some ((v, .inl (J.1, 16, .inl u30)) : Nat × va_E) := by rw [ew30a]; exact js_eq ev
  refine lv_pop hx hb dJ5_append_c97b9_33 rfl ?_
  refine lv_goto (tgt := 48) hx hb dJ5_append_c97b9_34 (by decide) ?_
  refine lv_aload_n hx hb dJ5_append_c97b9_48 rfl (lv_at hl 2 rfl) ?_
  refine lv_iload_n hx hb dJ5_append_c97b9_49 rfl (lv_at hl 0 rfl) ?_
  refine va_put (D := D) (ci := 1) (v := .int (zI (n + (if z < 10 then 1 else 2)))) (ty := .int) (C := RJ4) (T := TJ4) (N := 4) hx hb hts inJ4 tyJ4 tyJ4_ok nmJ4 hown hK hP hD hS kx ex_w30a rfl 3 (by decide) k79 (fun _ h9 => h9) rfl (by decide +kernel) rfl rfl (Nat.le_of_ble_eq_true rfl) dJ5_append_c97b9_50 (fun H locs hP hD hS => ?_)
  obtain ⟨w50, ew50⟩ : ∃ z9 : va_W, z9 = w30a.set kx ((x, .inr (1, [.ref (v), .int (zI (0)), .int (zI (0)), .int (zI (n + (if z < 10 then 1 else 2)))])) : Nat × va_E) := ⟨_, rfl⟩
  have hP : va_P D vwCl (w30a.set kx ((x, .inr (1, [.ref (v), .int (zI (0)), .int (zI (0)), .int (zI (n + (if z < 10 then 1 else 2)))])) : Nat × va_E)) H := hP
  have hD : va_D A (w30a.set kx ((x, .inr (1, [.ref (v), .int (zI (0)), .int (zI (0)), .int (zI (n + (if z < 10 then 1 else 2)))])) : Nat × va_E)) := hD
  rw [← ew50] at hP hD
  have ex_w50 : w50[kx]? = some ((x, .inr (1, [.ref (v), .int (zI (0)), .int (zI (0)), .int (zI (n + (if z < 10 then 1 else 2)))])) : Nat × va_E) := by rw [ew50]; exact js_eq ex_w30a
  have ev_w50 : w50[kv]? = some ((v, .inl (J.1, 16, .inl u30)) : Nat × va_E) := by rw [ew50]; exact js_ne ex_w30a ev_w30a (by intro h9; cases h9)
  refine lv_aload_n hx hb dJ5_append_c97b9_53 rfl (lv_at hl 2 rfl) ?_
  refine W.widen (k := 0) (n := 0) (by omega) (by omega) ?_
  have eW : w50 = ((ws.set kv ((v, .inl (J.1, 16, .inl u30)) : Nat × va_E)).set kx ((x, .inr (1, [.ref (v), .int (zI (0)), .int (zI (0)), .int (zI (n + (if z < 10 then 1 else 2)))])) : Nat × va_E)) := by rw [ew50, ew30a]
  rw [eW] at hP hD
  exact W.aret (v := .ref (x)) hx hb hr (Or.inl ⟨_, rfl⟩) (Or.inr ⟨_, rfl⟩) (fun t9 ht hW => ⟨⟨u30, _, rfl, hw30, rfl, by show va_P D vwCl _ t9.heap; rw [ht]; exact hP, hD⟩, hS.F ht⟩) hS.2.2 dJ5_append_c97b9_54

set_option maxHeartbeats 1000000 in
set_option maxRecDepth 100000 in
/-- J4_append_bf812 -/
theorem c_J4_append_bf812 (l : Launch) (D : va_G) (J : jT) (A : Nat → Prop) (sz : Nat) (hA : ∀ y : Nat, sz ≤ y → A y) (ws : va_W) (x : Nat) (v : Nat) (n : Int) (f : Nat → Int32) (z : Int) (kx : Nat) (ex : ws[kx]? = some ((x, .inr (1, [.ref (v), .int (zI (0)), .int (zI (0)), .int (zI (n))])) : Nat × va_E)) (kv : Nat) (ev : ws[kv]? = some ((v, .inl (J.1, 16, .inl f)) : Nat × va_E)) (hn : 0 ≤ n ∧ n + (if z < 10 then 1 else 2) ≤ 16) (hz : 0 ≤ z ∧ z ≤ 99) (hF : jF f) : Met l yJ4_append_bf812 wsJ4_append_bf812 ({ frames := 9, cells := 0, slots := 0, locals := 300 }) (va_Pc [.ref (x), .int (zI (z))] (fun U => U.heap.size = sz ∧ jW D J A ws U)) (va_Qr (fun (u : (Nat → Int32)) => jF u) (fun u y9 t => y9 = x ∧ va_P D vwCl ((ws.set kv ((v, .inl (J.1, 16, .inl u)) : Nat × va_E)).set kx ((x, .inr (1, [.ref (v), .int (zI (0)), .int (zI (0)), .int (zI (n + (if z < 10 then 1 else 2)))])) : Nat × va_E)) t.heap ∧ va_D A ((ws.set kv ((v, .inl (J.1, 16, .inl u)) : Nat × va_E)).set kx ((x, .inr (1, [.ref (v), .int (zI (0)), .int (zI (0)), .int (zI (n + (if z < 10 then 1 else 2)))])) : Nat × va_E))) A) 0 0 A := by
  refine Met.ofW (cc := cJ4_append_bf812) (maxL := 2) (ret := (some (.object "java/lang/StringBuilder"))) (by decide) rfl ?_
  intro p e s m args below meth c s₁ B hml hpc0
  obtain ⟨rfl, hsz, hP, hD, hZ⟩ := hpc0
  have hx := B.exec
  have hb := B.bytes
  have hr := B.returns
  have hts := atoms_spec (ws := wsJ4_append_bf812) B.pre
  have hown : s.vm.findClass RJ4 = some m.cls := findClass_of_methodNamed B.named
  have hlocks := B.notSynchronized
  have hin : meth.name = "append" := (name_of_methodNamed B.named B.method).1
  subst hsz
  have hK := hZ.1
  have hS : va_S A s.heap s.heap [] := va_S.rf
  have hk0 : ∀ x : Nat, x < s.heap.size → s.heap[x]? = s.heap[x]? := fun _ _ => rfl
  have hl := lv_entry ([.ref (x), .int (zI (z))]) (n := 2) (Nat.le_of_ble_eq_true rfl)
  rw [lg_entry_eq]
  generalize (lg_sl ([.ref (x), .int (zI (z))]) ++ List.replicate (2 - (lg_sl ([.ref (x), .int (zI (z))])).length) Slot.unset).toArray = ls at hl ⊢
  have hl : lv_has ls 2 [(0, .ref (x)), (1, .int (zI (z)))] := hl
  have inJ4 : ∀ w ∈ u_ws RJ4 TJ4 4, w ∈ wsJ4_append_bf812 := by decide +kernel
  have hdg : 1 ≤ (if z < 10 then 1 else 2) ∧ (if z < 10 then 1 else 2) ≤ 2 ∧ (z < 10 → (if z < 10 then 1 else 2) = 1) ∧ (10 ≤ z → (if z < 10 then 1 else 2) = 2) := by split <;> omega
  refine lv_aload_n hx hb dJ4_append_bf812_0 rfl (lv_at hl 0 rfl) ?_
  refine lv_iload_n hx hb dJ4_append_bf812_1 rfl (lv_at hl 1 rfl) ?_
  refine va_callr (va_runSU (hK.1 1 _ rfl).2 (As := [.int (zI (z))]) (rest := []) ⟨hx, hb, hml, hown, hts⟩ (c_J5_append_c97b9 l D J A s.heap.size (fun y h => hA y (Nat.le_trans hS.1 h)) ws x v n f z kx ex kv ev (by omega) (by omega) hF) (va_cwSU 1 hts gJ4_append_bf812_J5_append_c97b9_s53 rfl rfl rfl (by decide +kernel) ⟨Nat.le_of_ble_eq_true rfl, Nat.le_of_ble_eq_true rfl⟩) ⟨jW_blind, va_recv hK hP (ci := 1) (q0 := kx) rfl ex, fun U hU hW => ⟨rfl, by rw [hU], jW_mk hP hD hZ hS hU hW⟩⟩ rfl rfl hl.1 rfl (lv_room (Nat.le_of_ble_eq_true rfl)) dJ4_append_bf812_2 ⟨(show 0 + 0 ≤ 0 by omega), (show 0 + 0 ≤ 0 by omega)⟩) hS (fun _ _ h => h) (fun _ h => h) (fun u9 ra9 t9 H locs ht hvm hw hB hz hk hS1 => ?_)
  have eu9 := True.intro
  obtain ⟨u2, eu2⟩ : ∃ z, z = u9 := ⟨u9, rfl⟩
  rw [← eu2] at hB
  try rw [← eu2] at hw
  obtain ⟨hx9, hP9, hD9⟩ := hB
  rw [ht] at hP9
  have hP := hP9
  have hD := hD9
  have hS := hS1
  have hw2 := hw
  try dsimp only at hw2 hP hD
  obtain ⟨w2a, ew2a⟩ : ∃ z9 : va_W, z9 = ws.set kv ((v, .inl (J.1, 16, .inl u2)) : Nat × va_E) := ⟨_, rfl⟩
  rw [← ew2a] at hP hD
  have ex_w2a : w2a[kx]? = some ((x, .inr (1, [.ref (v), .int (zI (0)), .int (zI (0)), .int (zI (n))])) : Nat × va_E) := by rw [ew2a]; exact js_ne ev ex (by intro h9; cases h9)
  have ev_w2a : w2a[kv]? = some ((v, .inl (J.1, 16, .inl u2)) : Nat × va_E) := by rw [ew2a]; exact js_eq ev
  obtain ⟨w2b, ew2b⟩ : ∃ z9 : va_W, z9 = w2a.set kx ((x, .inr (1, [.ref (v), .int (zI (0)), .int (zI (0)), .int (zI (n + (if z < 10 then 1 else 2)))])) : Nat × va_E) := ⟨_, rfl⟩
  rw [← ew2b] at hP hD
  have ex_w2b : w2b[kx]? = some ((x, .inr (1, [.ref (v), .int (zI (0)), .int (zI (0)), .int (zI (n + (if z < 10 then 1 else 2)))])) : Nat × va_E) := by rw [ew2b]; exact js_eq ex_w2a
  have ev_w2b : w2b[kv]? = some ((v, .inl (J.1, 16, .inl u2)) : Nat × va_E) := by rw [ew2b]; exact js_ne ex_w2a ev_w2a (by intro h9; cases h9)
  rw [hx9]
  refine lv_pop hx hb dJ4_append_bf812_5 rfl ?_
  refine lv_aload_n hx hb dJ4_append_bf812_6 rfl (lv_at hl 0 rfl) ?_
  refine W.widen (k := 0) (n := 0) (by omega) (by omega) ?_
  have eW : w2b = ((ws.set kv ((v, .inl (J.1, 16, .inl u2)) : Nat × va_E)).set kx ((x, .inr (1, [.ref (v), .int (zI (0)), .int (zI (0)), .int (zI (n + (if z < 10 then 1 else 2)))])) : Nat × va_E)) := by rw [ew2b, ew2a]
  rw [eW] at hP hD
  exact W.aret (v := .ref (x)) hx hb hr (Or.inl ⟨_, rfl⟩) (Or.inr ⟨_, rfl⟩) (fun t9 ht hW => ⟨⟨u2, _, rfl, hw2, rfl, by show va_P D vwCl _ t9.heap; rw [ht]; exact hP, hD⟩, hS.F ht⟩) hS.2.2 dJ4_append_bf812_7
