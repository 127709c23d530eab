set_option maxHeartbeats 1000000 in
set_option maxRecDepth 100000 in
/-- J1_canEncode_fc78d -/
theorem c_J1_canEncode_fc78d (l : Launch) (ch : Int) (hc : 0 ≤ ch ∧ ch ≤ 127) : Met l yJ1_canEncode_fc78d wsJ1_canEncode_fc78d ({ frames := 7, cells := 0, slots := 0, locals := 100 }) (va_Pc [.int (zI (ch))] (fun _ => True)) (va_Qi (fun (r : Int32) (_ : Unit) => r = zI (1)) (fun _ _ => True) (fun _ => False)) 0 0 (fun _ => False) := by
  refine Met.ofW (cc := cJ1_canEncode_fc78d) (maxL := 1) (ret := (some .boolean)) (by decide) rfl ?_
  intro p e s m args below meth c s₁ B hml hpc0
  obtain ⟨rfl, -⟩ := hpc0
  have hx := B.exec
  have hb := B.bytes
  have hr := B.returns
  have hts := atoms_spec (ws := wsJ1_canEncode_fc78d) B.pre
  have hown : s.vm.findClass RJ1 = some m.cls := findClass_of_methodNamed B.named
  have hlocks := B.notSynchronized
  have hin : meth.name = "canEncode" := (name_of_methodNamed B.named B.method).1
  have hS : va_S (fun _ => False) s.heap s.heap [] := va_S.rf
  have hl := lv_entry ([.int (zI (ch))]) (n := 1) (Nat.le_of_ble_eq_true rfl)
  rw [lg_entry_eq]
  generalize (lg_sl ([.int (zI (ch))]) ++ List.replicate (1 - (lg_sl ([.int (zI (ch))])).length) Slot.unset).toArray = ls at hl ⊢
  have hl : lv_has ls 1 [(0, .int (zI (ch)))] := hl
  refine lv_iload_n hx hb dJ1_canEncode_fc78d_0 rfl (lv_at hl 0 rfl) ?_
  refine lv_sipush (v := zI 255) hx hb dJ1_canEncode_fc78d_1 (by decide +kernel) ?_
  refine z_icmp_gt (tgt := 11) hx hb dJ1_canEncode_fc78d_4 (by decide) (by omega) (by omega) (fun cd4 => ?_) (fun cd4 => ?_)
  · skip
    exfalso; omega
  · skip
    refine lv_iconst (v := zI 1) hx hb dJ1_canEncode_fc78d_7 rfl ?_
    refine lv_goto (tgt := 12) hx hb dJ1_canEncode_fc78d_8 (by decide) ?_
    exact W.zret (v := zI (1)) (ty := .boolean) hx hb hr (by decide +kernel) (fun t9 ht hW => ⟨⟨_, (), rfl, (by first | rfl | (congr 1; omega)), trivial⟩, vF_R ht hS.1 (fun x h9 => hS.2.1 x h9 (fun h => h))⟩) hS.2.2 dJ1_canEncode_fc78d_12

set_option maxHeartbeats 1000000 in
set_option maxRecDepth 100000 in
/-- J6_stringSize_0f7a4 -/
theorem c_J6_stringSize_0f7a4 (l : Launch) (z : Int) (hz : 0 ≤ z ∧ z ≤ 99) : Met l yJ6_stringSize_0f7a4 wsJ6_stringSize_0f7a4 ({ frames := 7, cells := 0, slots := 0, locals := 100 }) (va_Pc [.int (zI (z))] (fun _ => True)) (va_Qi (fun (r : Int32) (_ : Unit) => r = zI ((if z < 10 then 1 else 2))) (fun _ _ => True) (fun _ => False)) 0 0 (fun _ => False) := by
  refine Met.ofW (cc := cJ6_stringSize_0f7a4) (maxL := 4) (ret := (some .int)) (by decide) rfl ?_
  intro p e s m args below meth c s₁ B hml hpc0
  obtain ⟨rfl, -⟩ := hpc0
  have hx := B.exec
  have hb := B.bytes
  have hr := B.returns
  have hts := atoms_spec (ws := wsJ6_stringSize_0f7a4) B.pre
  have hown : s.vm.findClass RJ6 = some m.cls := findClass_of_methodNamed B.named
  have hlocks := B.notSynchronized
  have hin : meth.name = "stringSize" := (name_of_methodNamed B.named B.method).1
  have hS : va_S (fun _ => False) s.heap s.heap [] := va_S.rf
  have hl := lv_entry ([.int (zI (z))]) (n := 4) (Nat.le_of_ble_eq_true rfl)
  rw [lg_entry_eq]
  generalize (lg_sl ([.int (zI (z))]) ++ List.replicate (4 - (lg_sl ([.int (zI (z))])).length) Slot.unset).toArray = ls at hl ⊢
  have hl : lv_has ls 4 [(0, .int (zI (z)))] := hl
  refine lv_iconst (v := zI 1) hx hb dJ6_stringSize_0f7a4_0 rfl ?_
  refine lv_istore_n (lv' := [(1, .int (zI (1))), (0, .int (zI (z)))]) hx hb dJ6_stringSize_0f7a4_1 rfl hl (by decide) rfl (fun ls hl => ?_)
  refine lv_iload_n hx hb dJ6_stringSize_0f7a4_2 rfl (lv_at hl 1 rfl) ?_
  refine z_if_lt (tgt := 11) hx hb dJ6_stringSize_0f7a4_3 (by decide) (by omega) (fun cd3 => ?_) (fun cd3 => ?_)
  · skip
    exfalso; omega
  · skip
    refine lv_iconst (v := zI 0) hx hb dJ6_stringSize_0f7a4_6 rfl ?_
    refine lv_istore_n (lv' := [(1, .int (zI (0))), (0, .int (zI (z)))]) hx hb dJ6_stringSize_0f7a4_7 rfl hl (by decide) rfl (fun ls hl => ?_)
    refine lv_iload_n hx hb dJ6_stringSize_0f7a4_8 rfl (lv_at hl 1 rfl) ?_
    refine z_ineg hx hb dJ6_stringSize_0f7a4_9 ?_
    refine lv_istore_n (lv' := [(0, .int (zI (-z))), (1, .int (zI (0)))]) hx hb dJ6_stringSize_0f7a4_10 rfl hl (by decide) rfl (fun ls hl => ?_)
    refine lv_bipush (v := zI (-10)) hx hb dJ6_stringSize_0f7a4_11 (by decide +kernel) ?_
    refine lv_istore_n (lv' := [(2, .int (zI (-10))), (0, .int (zI (-z))), (1, .int (zI (0)))]) hx hb dJ6_stringSize_0f7a4_13 rfl hl (by decide) rfl (fun ls hl => ?_)
    refine lv_iconst (v := zI 1) hx hb dJ6_stringSize_0f7a4_14 rfl ?_
    refine lv_istore_n (lv' := [(3, .int (zI (1))), (2, .int (zI (-10))), (0, .int (zI (-z))), (1, .int (zI (0)))]) hx hb dJ6_stringSize_0f7a4_15 rfl hl (by decide) rfl (fun ls hl => ?_)
    refine lv_iload_n hx hb dJ6_stringSize_0f7a4_16 rfl (lv_at hl 0 rfl) ?_
    refine lv_bipush (v := zI 10) hx hb dJ6_stringSize_0f7a4_17 (by decide +kernel) ?_
    refine z_icmp_ge (tgt := 42) hx hb dJ6_stringSize_0f7a4_19 (by decide) (by decide) (by decide) (fun cd19 => absurd cd19 (by decide)) (fun _ => ?_)
    refine lv_iload_n hx hb dJ6_stringSize_0f7a4_22 rfl (lv_at hl 2 rfl) ?_
    refine lv_iload_n hx hb dJ6_stringSize_0f7a4_23 rfl (lv_at hl 1 rfl) ?_
    refine z_icmp_le (tgt := 31) hx hb dJ6_stringSize_0f7a4_24 (by decide) (by omega) (by omega) (fun cd24 => ?_) (fun cd24 => ?_)
    · skip
      refine lv_bipush (v := zI 10) hx hb dJ6_stringSize_0f7a4_31 (by decide +kernel) ?_
      refine lv_iload_n hx hb dJ6_stringSize_0f7a4_33 rfl (lv_at hl 1 rfl) ?_
      refine z_imul hx hb dJ6_stringSize_0f7a4_34 ?_
      refine lv_istore_n (lv' := [(2, .int (zI (10 * (-10)))), (3, .int (zI (1))), (0, .int (zI (-z))), (1, .int (zI (0)))]) hx hb dJ6_stringSize_0f7a4_35 rfl hl (by decide) rfl (fun ls hl => ?_)
      refine lv_iinc (v := zI (1 + 1)) (lv' := [(3, .int (zI (1 + 1))), (2, .int (zI (10 * (-10)))), (0, .int (zI (-z))), (1, .int (zI (0)))]) hx hb dJ6_stringSize_0f7a4_36 hl (k := 1) rfl (zI_add _ _) (by decide) rfl (fun ls hl => ?_)
      refine lv_goto (tgt := 16) hx hb dJ6_stringSize_0f7a4_39 (by decide) ?_
      refine lv_iload_n hx hb dJ6_stringSize_0f7a4_16 rfl (lv_at hl 0 rfl) ?_
      refine lv_bipush (v := zI 10) hx hb dJ6_stringSize_0f7a4_17 (by decide +kernel) ?_
      refine z_icmp_ge (tgt := 42) hx hb dJ6_stringSize_0f7a4_19 (by decide) (by omega) (by omega) (fun cd19 => ?_) (fun cd19 => ?_)
      · skip
        exfalso; omega
      · skip
        refine lv_iload_n hx hb dJ6_stringSize_0f7a4_22 rfl (lv_at hl 2 rfl) ?_
        refine lv_iload_n hx hb dJ6_stringSize_0f7a4_23 rfl (lv_at hl 1 rfl) ?_
        refine z_icmp_le (tgt := 31) hx hb dJ6_stringSize_0f7a4_24 (by decide) (by omega) (by omega) (fun cd24 => ?_) (fun cd24 => ?_)
        · skip
          exfalso; omega
        · skip
          refine lv_iload_n hx hb dJ6_stringSize_0f7a4_27 rfl (lv_at hl 0 rfl) ?_
          refine lv_iload_n hx hb dJ6_stringSize_0f7a4_28 rfl (lv_at hl 3 rfl) ?_
          refine z_iadd hx hb dJ6_stringSize_0f7a4_29 ?_
          exact W.iret (v := zI ((1 + 1) + 0)) hx hb hr (fun t9 ht hW => ⟨⟨_, (), rfl, (by first | (rw [if_pos (by omega)]; rfl) | (rw [if_neg (by omega)]; rfl)), trivial⟩, vF_R ht hS.1 (fun x h9 => hS.2.1 x h9 (fun h => h))⟩) hS.2.2 dJ6_stringSize_0f7a4_30
    · skip
      refine lv_iload_n hx hb dJ6_stringSize_0f7a4_27 rfl (lv_at hl 0 rfl) ?_
      refine lv_iload_n hx hb dJ6_stringSize_0f7a4_28 rfl (lv_at hl 3 rfl) ?_
      refine z_iadd hx hb dJ6_stringSize_0f7a4_29 ?_
      exact W.iret (v := zI (1 + 0)) hx hb hr (fun t9 ht hW => ⟨⟨_, (), rfl, (by first | (rw [if_pos (by omega)]; rfl) | (rw [if_neg (by omega)]; rfl)), trivial⟩, vF_R ht hS.1 (fun x h9 => hS.2.1 x h9 (fun h => h))⟩) hS.2.2 dJ6_stringSize_0f7a4_30

set_option maxHeartbeats 1000000 in
set_option maxRecDepth 100000 in
/-- J7_checkLength_df160 -/
theorem c_J7_checkLength_df160 (l : Launch) (z : Int) (y : Int) (hz : rg z ∧ rg y ∧ z ≤ y) : Met l yJ7_checkLength_df160 wsJ7_checkLength_df160 ({ frames := 7, cells := 0, slots := 0, locals := 100 }) (va_Pc [.int (zI (z)), .int (zI (y))] (fun _ => True)) (va_Qv (fun (_ : Unit) => True) (fun _ _ => True) (fun _ => False)) 0 0 (fun _ => False) := by
  refine Met.ofW (cc := cJ7_checkLength_df160) (maxL := 2) (ret := none) (by decide) rfl ?_
  intro p e s m args below meth c s₁ B hml hpc0
  obtain ⟨rfl, -⟩ := hpc0
  have hx := B.exec
  have hb := B.bytes
  have hr := B.returns
  have hts := atoms_spec (ws := wsJ7_checkLength_df160) B.pre
  have hown : s.vm.findClass RJ7 = some m.cls := findClass_of_methodNamed B.named
  have hlocks := B.notSynchronized
  have hin : meth.name = "checkLength" := (name_of_methodNamed B.named B.method).1
  have hS : va_S (fun _ => False) s.heap s.heap [] := va_S.rf
  have hl := lv_entry ([.int (zI (z)), .int (zI (y))]) (n := 2) (Nat.le_of_ble_eq_true rfl)
  rw [lg_entry_eq]
  generalize (lg_sl ([.int (zI (z)), .int (zI (y))]) ++ List.replicate (2 - (lg_sl ([.int (zI (z)), .int (zI (y))])).length) Slot.unset).toArray = ls at hl ⊢
  have hl : lv_has ls 2 [(0, .int (zI (z))), (1, .int (zI (y)))] := hl
  refine lv_iload_n hx hb dJ7_checkLength_df160_0 rfl (lv_at hl 1 rfl) ?_
  refine lv_iload_n hx hb dJ7_checkLength_df160_1 rfl (lv_at hl 0 rfl) ?_
  refine z_icmp_ge (tgt := 37) hx hb dJ7_checkLength_df160_2 (by decide) (by omega) (by omega) (fun cd2 => ?_) (fun cd2 => ?_)
  · skip
    exact W.vret hx hb hr (fun t9 ht hW => ⟨⟨(), rfl, trivial, trivial⟩, vF_R ht hS.1 (fun x h9 => hS.2.1 x h9 (fun h => h))⟩) hS.2.2 dJ7_checkLength_df160_37
  · skip
    exfalso; omega

set_option maxHeartbeats 1000000 in
set_option maxRecDepth 100000 in
/-- J5_isLatin1_aae02 -/
theorem c_J5_isLatin1_aae02 (l : Launch) (D : va_G) (J : jT) (A : Nat → Prop) (sz : Nat) (hA : ∀ y : Nat, sz ≤ y → A y) (ws : va_W) (x : Nat) (v : Nat) (n : Int) (kx : Nat) (ex : ws[kx]? = some ((x, .inr (1, [.ref (v), .int (zI (0)), .int (zI (0)), .int (zI (n))])) : Nat × va_E)) : Met l yJ5_isLatin1_aae02 wsJ5_isLatin1_aae02 ({ frames := 7, cells := 0, slots := 0, locals := 100 }) (va_Pc [.ref (x)] (fun U => U.heap.size = sz ∧ jW D J A ws U)) (va_Qi (fun (r : Int32) (_ : Unit) => r = zI (1)) (fun _ _ => True) (fun _ => False)) 0 0 A := by
  refine Met.ofW (cc := cJ5_isLatin1_aae02) (maxL := 1) (ret := (some .boolean)) (by decide) rfl ?_
  intro p e s m args below meth c s₁ B hml hpc0
  obtain ⟨rfl, hsz, hP, hD, hZ⟩ := hpc0
  have hx := B.exec
  have hb := B.bytes
  have hr := B.returns
  have hts := atoms_spec (ws := wsJ5_isLatin1_aae02) B.pre
  have hown : s.vm.findClass RJ5 = some m.cls := findClass_of_methodNamed B.named
  have hlocks := B.notSynchronized
  have hin : meth.name = "isLatin1" := (name_of_methodNamed B.named B.method).1
  subst hsz
  have hK := hZ.1
  have hS : va_S A s.heap s.heap [] := va_S.rf
  have hk0 : ∀ x : Nat, x < s.heap.size → s.heap[x]? = s.heap[x]? := fun _ _ => rfl
  have hl := lv_entry ([.ref (x)]) (n := 1) (Nat.le_of_ble_eq_true rfl)
  rw [lg_entry_eq]
  generalize (lg_sl ([.ref (x)]) ++ List.replicate (1 - (lg_sl ([.ref (x)])).length) Slot.unset).toArray = ls at hl ⊢
  have hl : lv_has ls 1 [(0, .ref (x))] := hl
  have k18 := hts (.fieldLink RJ5 18 "java/lang/String" "COMPACT_STRINGS" "Z") (by decide +kernel)
  have k22 := hts (.fieldLink RJ5 22 "java/lang/AbstractStringBuilder" "coder" "B") (by decide +kernel)
  have inJ4 : ∀ w ∈ u_ws RJ4 TJ4 4, w ∈ wsJ5_isLatin1_aae02 := by decide +kernel
  refine va_gets hx hb hZ.2.1 hS hown k18 (fun _ h9 => h9) dJ5_isLatin1_aae02_0 ?_
  refine z_if_eq (tgt := 17) hx hb dJ5_isLatin1_aae02_3 (by decide) (by decide) (fun cd3 => absurd cd3 (by decide)) (fun _ => ?_)
  refine lv_aload_n hx hb dJ5_isLatin1_aae02_6 rfl (lv_at hl 0 rfl) ?_
  refine va_get (D := D) (ci := 1) (v := .int (zI (0))) (C := RJ4) (T := TJ4) (N := 4) hx hb hts inJ4 hown hK hP kx ex rfl 1 (by decide) k22 (fun _ h9 => h9) rfl dJ5_isLatin1_aae02_7 ?_
  refine z_if_ne (tgt := 17) hx hb dJ5_isLatin1_aae02_10 (by decide) (by decide) (fun cd10 => absurd cd10 (by decide)) (fun _ => ?_)
  refine lv_iconst (v := zI 1) hx hb dJ5_isLatin1_aae02_13 rfl ?_
  refine lv_goto (tgt := 18) hx hb dJ5_isLatin1_aae02_14 (by decide) ?_
  exact W.zret (v := zI (1)) (ty := .boolean) hx hb hr (by decide +kernel) (fun t9 ht hW => ⟨⟨_, (), rfl, (by first | rfl | (congr 1; omega)), trivial⟩, vF_R ht hS.1 hk0⟩) hS.2.2 dJ5_isLatin1_aae02_18

set_option maxHeartbeats 1000000 in
set_option maxRecDepth 100000 in
/-- J5_getValue_6d5f1 -/
theorem c_J5_getValue_6d5f1 (l : Launch) (D : va_G) (J : jT) (A : Nat → Prop) (sz : Nat) (hA : ∀ y : Nat, sz ≤ y → A y) (ws : va_W) (x : Nat) (v : Nat) (n : Int) (kx : Nat) (ex : ws[kx]? = some ((x, .inr (1, [.ref (v), .int (zI (0)), .int (zI (0)), .int (zI (n))])) : Nat × va_E)) : Met l yJ5_getValue_6d5f1 wsJ5_getValue_6d5f1 ({ frames := 7, cells := 0, slots := 0, locals := 100 }) (va_Pc [.ref (x)] (fun U => U.heap.size = sz ∧ jW D J A ws U)) (va_Qr (fun (_ : Unit) => True) (fun _ y9 _ => y9 = v) (fun _ => False)) 0 0 A := by
  refine Met.ofW (cc := cJ5_getValue_6d5f1) (maxL := 1) (ret := (some (.array .byte))) (by decide) rfl ?_
  intro p e s m args below meth c s₁ B hml hpc0
  obtain ⟨rfl, hsz, hP, hD, hZ⟩ := hpc0
  have hx := B.exec
  have hb := B.bytes
  have hr := B.returns
  have hts := atoms_spec (ws := wsJ5_getValue_6d5f1) B.pre
  have hown : s.vm.findClass RJ5 = some m.cls := findClass_of_methodNamed B.named
  have hlocks := B.notSynchronized
  have hin : meth.name = "getValue" := (name_of_methodNamed B.named B.method).1
  subst hsz
  have hK := hZ.1
  have hS : va_S A s.heap s.heap [] := va_S.rf
  have hk0 : ∀ x : Nat, x < s.heap.size → s.heap[x]? = s.heap[x]? := fun _ _ => rfl
  have hl := lv_entry ([.ref (x)]) (n := 1) (Nat.le_of_ble_eq_true rfl)
  rw [lg_entry_eq]
  generalize (lg_sl ([.ref (x)]) ++ List.replicate (1 - (lg_sl ([.ref (x)])).length) Slot.unset).toArray = ls at hl ⊢
  have hl : lv_has ls 1 [(0, .ref (x))] := hl
  have k15 := hts (.fieldLink RJ5 15 "java/lang/AbstractStringBuilder" "value" "[B") (by decide +kernel)
  have inJ4 : ∀ w ∈ u_ws RJ4 TJ4 4, w ∈ wsJ5_getValue_6d5f1 := by decide +kernel
  refine lv_aload_n hx hb dJ5_getValue_6d5f1_0 rfl (lv_at hl 0 rfl) ?_
  refine va_get (D := D) (ci := 1) (v := .ref (v)) (C := RJ4) (T := TJ4) (N := 4) hx hb hts inJ4 hown hK hP kx ex rfl 0 (by decide) k15 (fun _ h9 => h9) rfl dJ5_getValue_6d5f1_1 ?_
  exact W.aret (v := .ref (v)) hx hb hr (Or.inr ⟨_, rfl⟩) (Or.inr ⟨_, rfl⟩) (fun t9 ht hW => ⟨⟨(), _, rfl, trivial, rfl⟩, vF_R ht hS.1 hk0⟩) hS.2.2 dJ5_getValue_6d5f1_4

set_option maxHeartbeats 1000000 in
set_option maxRecDepth 100000 in
/-- J5_length_8abf5 -/
theorem c_J5_length_8abf5 (l : Launch) (D : va_G) (J : jT) (A : Nat → Prop) (sz : Nat) (hA : ∀ y : Nat, sz ≤ y → A y) (ws : va_W) (x : Nat) (v : Nat) (n : Int) (kx : Nat) (ex : ws[kx]? = some ((x, .inr (1, [.ref (v), .int (zI (0)), .int (zI (0)), .int (zI (n))])) : Nat × va_E)) : Met l yJ5_length_8abf5 wsJ5_length_8abf5 ({ frames := 7, cells := 0, slots := 0, locals := 100 }) (va_Pc [.ref (x)] (fun U => U.heap.size = sz ∧ jW D J A ws U)) (va_Qi (fun (r : Int32) (_ : Unit) => r = zI (n)) (fun _ _ => True) (fun _ => False)) 0 0 A := by
  refine Met.ofW (cc := cJ5_length_8abf5) (maxL := 1) (ret := (some .int)) (by decide) rfl ?_
  intro p e s m args below meth c s₁ B hml hpc0
  obtain ⟨rfl, hsz, hP, hD, hZ⟩ := hpc0
  have hx := B.exec
  have hb := B.bytes
  have hr := B.returns
  have hts := atoms_spec (ws := wsJ5_length_8abf5) B.pre
  have hown : s.vm.findClass RJ5 = some m.cls := findClass_of_methodNamed B.named
  have hlocks := B.notSynchronized
  have hin : meth.name = "length" := (name_of_methodNamed B.named B.method).1
  subst hsz
  have hK := hZ.1
  have hS : va_S A s.heap s.heap [] := va_S.rf
  have hk0 : ∀ x : Nat, x < s.heap.size → s.heap[x]? = s.heap[x]? := fun _ _ => rfl
  have hl := lv_entry ([.ref (x)]) (n := 1) (Nat.le_of_ble_eq_true rfl)
  rw [lg_entry_eq]
  generalize (lg_sl ([.ref (x)]) ++ List.replicate (1 - (lg_sl ([.ref (x)])).length) Slot.unset).toArray = ls at hl ⊢
  have hl : lv_has ls 1 [(0, .ref (x))] := hl
  have k79 := hts (.fieldLink RJ5 79 "java/lang/AbstractStringBuilder" "count" "I") (by decide +kernel)
  have inJ4 : ∀ w ∈ u_ws RJ4 TJ4 4, w ∈ wsJ5_length_8abf5 := by decide +kernel
  refine lv_aload_n hx hb dJ5_length_8abf5_0 rfl (lv_at hl 0 rfl) ?_
  refine va_get (D := D) (ci := 1) (v := .int (zI (n))) (C := RJ4) (T := TJ4) (N := 4) hx hb hts inJ4 hown hK hP kx ex rfl 3 (by decide) k79 (fun _ h9 => h9) rfl dJ5_length_8abf5_1 ?_
  exact W.iret (v := zI (n)) hx hb hr (fun t9 ht hW => ⟨⟨_, (), rfl, (by first | rfl | (congr 1; omega)), trivial⟩, vF_R ht hS.1 hk0⟩) hS.2.2 dJ5_length_8abf5_4

set_option maxHeartbeats 1000000 in
set_option maxRecDepth 100000 in
/-- J4_length_8abf5 -/
theorem c_J4_length_8abf5 (l : Launch) (D : va_G) (J : jT) (A : Nat → Prop) (sz : Nat) (hA : ∀ y : Nat, sz ≤ y → A y) (ws : va_W) (x : Nat) (v : Nat) (n : Int) (kx : Nat) (ex : ws[kx]? = some ((x, .inr (1, [.ref (v), .int (zI (0)), .int (zI (0)), .int (zI (n))])) : Nat × va_E)) : Met l yJ4_length_8abf5 wsJ4_length_8abf5 ({ frames := 8, cells := 0, slots := 0, locals := 200 }) (va_Pc [.ref (x)] (fun U => U.heap.size = sz ∧ jW D J A ws U)) (va_Qi (fun (r : Int32) (_ : Unit) => r = zI (n)) (fun _ _ => True) (fun _ => False)) 0 0 A := by
  refine Met.ofW (cc := cJ4_length_8abf5) (maxL := 1) (ret := (some .int)) (by decide) rfl ?_
  intro p e s m args below meth c s₁ B hml hpc0
  obtain ⟨rfl, hsz, hP, hD, hZ⟩ := hpc0
  have hx := B.exec
  have hb := B.bytes
  have hr := B.returns
  have hts := atoms_spec (ws := wsJ4_length_8abf5) B.pre
  have hown : s.vm.findClass RJ4 = some m.cls := findClass_of_methodNamed B.named
  have hlocks := B.notSynchronized
  have hin : meth.name = "length" := (name_of_methodNamed B.named B.method).1
  subst hsz
  have hK := hZ.1
  have hS : va_S A s.heap s.heap [] := va_S.rf
  have hk0 : ∀ x : Nat, x < s.heap.size → s.heap[x]? = s.heap[x]? := fun _ _ => rfl
  have hl := lv_entry ([.ref (x)]) (n := 1) (Nat.le_of_ble_eq_true rfl)
  rw [lg_entry_eq]
  generalize (lg_sl ([.ref (x)]) ++ List.replicate (1 - (lg_sl ([.ref (x)])).length) Slot.unset).toArray = ls at hl ⊢
  have hl : lv_has ls 1 [(0, .ref (x))] := hl
  have inJ4 : ∀ w ∈ u_ws RJ4 TJ4 4, w ∈ wsJ4_length_8abf5 := by decide +kernel
  refine lv_aload_n hx hb dJ4_length_8abf5_0 rfl (lv_at hl 0 rfl) ?_
  refine va_calli (va_runSU (hK.1 1 _ rfl).2 (As := []) (rest := []) ⟨hx, hb, hml, hown, hts⟩ (c_J5_length_8abf5 l D J A s.heap.size (fun y h => hA y (Nat.le_trans hS.1 h)) ws x v n kx ex) (va_cwSU 0 hts gJ4_length_8abf5_J5_length_8abf5_s343 rfl rfl rfl (by decide +kernel) ⟨Nat.le_of_ble_eq_true rfl, Nat.le_of_ble_eq_true rfl⟩) ⟨jW_blind, va_recv hK hP (ci := 1) (q0 := kx) rfl ex, fun U hU hW => ⟨rfl, by rw [hU], jW_mk hP hD hZ hS hU hW⟩⟩ rfl rfl hl.1 rfl (lv_room (Nat.le_of_ble_eq_true rfl)) dJ4_length_8abf5_1 ⟨(show 0 + 0 ≤ 0 by omega), (show 0 + 0 ≤ 0 by omega)⟩) hS (fun _ _ h => h.elim) (fun _ h => h) (fun rv9 u9 t9 H locs ht hvm hw hB hz hk hS1 => ?_)
  have hP := hP.kept (fun k x hk9 => hk x.1 ((hP k x hk9).lt) (fun h => h))
  have hk0 : ∀ x : Nat, x < s.heap.size → H[x]? = s.heap[x]? := fun x h9 => (hk x (Nat.lt_of_lt_of_le h9 hS.1) (fun h => h)).trans (hk0 x h9)
  have hS := hS1
  obtain rfl := hw
  refine W.widen (k := 0) (n := 0) (by omega) (by omega) ?_
  exact W.iret (v := zI (n)) hx hb hr (fun t9 ht hW => ⟨⟨_, (), rfl, (by first | rfl | (congr 1; omega)), trivial⟩, vF_R ht hS.1 hk0⟩) hS.2.2 dJ4_length_8abf5_4

set_option maxHeartbeats 1000000 in
set_option maxRecDepth 100000 in
/-- J0_coder_7d493 -/
theorem c_J0_coder_7d493 (l : Launch) (D : va_G) (J : jT) (A : Nat → Prop) (sz : Nat) (hA : ∀ y : Nat, sz ≤ y → A y) (ws : va_W) (y : Nat) (w : Nat) (ky : Nat) (ey : ws[ky]? = some ((y, .inr (0, [.ref (w), .int (zI (0)), .int (zI (0)), .int (zI (0))])) : Nat × va_E)) : Met l yJ0_coder_7d493 wsJ0_coder_7d493 ({ frames := 7, cells := 0, slots := 0, locals := 100 }) (va_Pc [.ref (y)] (fun U => U.heap.size = sz ∧ jW D J A ws U)) (va_Qi (fun (r : Int32) (_ : Unit) => r = zI (0)) (fun _ _ => True) (fun _ => False)) 0 0 A := by
  refine Met.ofW (cc := cJ0_coder_7d493) (maxL := 1) (ret := (some .byte)) (by decide) rfl ?_
  intro p e s m args below meth c s₁ B hml hpc0
  obtain ⟨rfl, hsz, hP, hD, hZ⟩ := hpc0
  have hx := B.exec
  have hb := B.bytes
  have hr := B.returns
  have hts := atoms_spec (ws := wsJ0_coder_7d493) B.pre
  have hown : s.vm.findClass RJ0 = some m.cls := findClass_of_methodNamed B.named
  have hlocks := B.notSynchronized
  have hin : meth.name = "coder" := (name_of_methodNamed B.named B.method).1
  subst hsz
  have hK := hZ.1
  have hS : va_S A s.heap s.heap [] := va_S.rf
  have hk0 : ∀ x : Nat, x < s.heap.size → s.heap[x]? = s.heap[x]? := fun _ _ => rfl
  have hl := lv_entry ([.ref (y)]) (n := 1) (Nat.le_of_ble_eq_true rfl)
  rw [lg_entry_eq]
  generalize (lg_sl ([.ref (y)]) ++ List.replicate (1 - (lg_sl ([.ref (y)])).length) Slot.unset).toArray = ls at hl ⊢
  have hl : lv_has ls 1 [(0, .ref (y))] := hl
  have k15 := hts (.fieldLink RJ0 15 "java/lang/String" "coder" "B") (by decide +kernel)
  have k38 := hts (.fieldLink RJ0 38 "java/lang/String" "COMPACT_STRINGS" "Z") (by decide +kernel)
  have inJ0 : ∀ w ∈ u_ws RJ0 TJ0 4, w ∈ wsJ0_coder_7d493 := by decide +kernel
  refine va_gets hx hb hZ.2.1 hS hown k38 (fun _ h9 => h9) dJ0_coder_7d493_0 ?_
  refine z_if_eq (tgt := 13) hx hb dJ0_coder_7d493_3 (by decide) (by decide) (fun cd3 => absurd cd3 (by decide)) (fun _ => ?_)
  refine lv_aload_n hx hb dJ0_coder_7d493_6 rfl (lv_at hl 0 rfl) ?_
  refine va_get (D := D) (ci := 0) (v := .int (zI (0))) (C := RJ0) (T := TJ0) (N := 4) hx hb hts inJ0 hown hK hP ky ey rfl 1 (by decide) k15 (fun _ h9 => h9) rfl dJ0_coder_7d493_7 ?_
  refine lv_goto (tgt := 14) hx hb dJ0_coder_7d493_10 (by decide) ?_
  exact W.zret (v := zI (0)) (ty := .byte) hx hb hr (by decide +kernel) (fun t9 ht hW => ⟨⟨_, (), rfl, (by first | rfl | (congr 1; omega)), trivial⟩, vF_R ht hS.1 hk0⟩) hS.2.2 dJ0_coder_7d493_14

set_option maxHeartbeats 1000000 in
set_option maxRecDepth 100000 in
/-- J0_length_8abf5 -/
theorem c_J0_length_8abf5 (l : Launch) (D : va_G) (J : jT) (A : Nat → Prop) (sz : Nat) (hA : ∀ y : Nat, sz ≤ y → A y) (ws : va_W) (y : Nat) (w : Nat) (g : Nat → Int32) (k : Nat) (ky : Nat) (ey : ws[ky]? = some ((y, .inr (0, [.ref (w), .int (zI (0)), .int (zI (0)), .int (zI (0))])) : Nat × va_E)) (kw : Nat) (ew : ws[kw]? = some ((w, .inl (J.1, k, .inl g)) : Nat × va_E)) : Met l yJ0_length_8abf5 wsJ0_length_8abf5 ({ frames := 8, cells := 0, slots := 0, locals := 200 }) (va_Pc [.ref (y)] (fun U => U.heap.size = sz ∧ jW D J A ws U)) (va_Qi (fun (r : Int32) (_ : Unit) => r = zI ((k : Int))) (fun _ _ => True) (fun _ => False)) 0 0 A := by
  refine Met.ofW (cc := cJ0_length_8abf5) (maxL := 1) (ret := (some .int)) (by decide) rfl ?_
  intro p e s m args below meth c s₁ B hml hpc0
  obtain ⟨rfl, hsz, hP, hD, hZ⟩ := hpc0
  have hx := B.exec
  have hb := B.bytes
  have hr := B.returns
  have hts := atoms_spec (ws := wsJ0_length_8abf5) B.pre
  have hown : s.vm.findClass RJ0 = some m.cls := findClass_of_methodNamed B.named
  have hlocks := B.notSynchronized
  have hin : meth.name = "length" := (name_of_methodNamed B.named B.method).1
  subst hsz
  have hK := hZ.1
  have hS : va_S A s.heap s.heap [] := va_S.rf
  have hk0 : ∀ x : Nat, x < s.heap.size → s.heap[x]? = s.heap[x]? := fun _ _ => rfl
  have hl := lv_entry ([.ref (y)]) (n := 1) (Nat.le_of_ble_eq_true rfl)
  rw [lg_entry_eq]
  generalize (lg_sl ([.ref (y)]) ++ List.replicate (1 - (lg_sl ([.ref (y)])).length) Slot.unset).toArray = ls at hl ⊢
  have hl : lv_has ls 1 [(0, .ref (y))] := hl
  have k9 := hts (.fieldLink RJ0 9 "java/lang/String" "value" "[B") (by decide +kernel)
  have inJ0 : ∀ w ∈ u_ws RJ0 TJ0 4, w ∈ wsJ0_length_8abf5 := by decide +kernel
  refine lv_aload_n hx hb dJ0_length_8abf5_0 rfl (lv_at hl 0 rfl) ?_
  refine va_get (D := D) (ci := 0) (v := .ref (w)) (C := RJ0) (T := TJ0) (N := 4) hx hb hts inJ0 hown hK hP ky ey rfl 0 (by decide) k9 (fun _ h9 => h9) rfl dJ0_length_8abf5_1 ?_
  refine va_alen (v := zI (k)) hx hb hK hP kw 0 ew rfl (zI_nI _) dJ0_length_8abf5_4 ?_
  refine lv_aload_n hx hb dJ0_length_8abf5_5 rfl (lv_at hl 0 rfl) ?_
  refine va_calli (va_runV (As := []) (rest := [.int (zI ((k : Int)))]) ⟨hx, hb, hml, hown, hts⟩ (c_J0_coder_7d493 l D J A s.heap.size (fun y h => hA y (Nat.le_trans hS.1 h)) ws y w ky ey) (cwV 0 hts gJ0_length_8abf5_J0_coder_7d493 rfl rfl rfl (by decide +kernel) ⟨Nat.le_of_ble_eq_true rfl, Nat.le_of_ble_eq_true rfl⟩) ⟨jW_blind, va_recv hK hP (ci := 0) (q0 := ky) rfl ey, fun U hU hW => ⟨rfl, by rw [hU], jW_mk hP hD hZ hS hU hW⟩⟩ rfl rfl hl.1 rfl (lv_room (Nat.le_of_ble_eq_true rfl)) dJ0_length_8abf5_6 ⟨(show 0 + 0 ≤ 0 by omega), (show 0 + 0 ≤ 0 by omega)⟩) hS (fun _ _ h => h.elim) (fun _ h => h) (fun rv9 u9 t9 H locs ht hvm hw hB hz hk hS1 => ?_)
  have hP := hP.kept (fun k x hk9 => hk x.1 ((hP k x hk9).lt) (fun h => h))
  have hk0 : ∀ x : Nat, x < s.heap.size → H[x]? = s.heap[x]? := fun x h9 => (hk x (Nat.lt_of_lt_of_le h9 hS.1) (fun h => h)).trans (hk0 x h9)
  have hS := hS1
  obtain rfl := hw
  refine z_ishr0 hx hb dJ0_length_8abf5_9 ?_
  refine W.widen (k := 0) (n := 0) (by omega) (by omega) ?_
  exact W.iret (v := zI ((k : Int))) hx hb hr (fun t9 ht hW => ⟨⟨_, (), rfl, (by first | rfl | (congr 1; omega)), trivial⟩, vF_R ht hS.1 hk0⟩) hS.2.2 dJ0_length_8abf5_10

set_option maxHeartbeats 1000000 in
set_option maxRecDepth 100000 in
/-- J5_ensureCapacityInternal_d00df -/
theorem c_J5_ensureCapacityInternal_d00df (l : Launch) (D : va_G) (J : jT) (A : Nat → Prop) (sz : Nat) (hA : ∀ y : Nat, sz ≤ y → A y) (ws : va_W) (x : Nat) (v : Nat) (n : Int) (f : Nat → Int32) (z : Int) (kx : Nat) (ex : ws[kx]? = some ((x, .inr (1, [.ref (v), .int (zI (0)), .int (zI (0)), .int (zI (n))])) : Nat × va_E)) (kv : Nat) (ev : ws[kv]? = some ((v, .inl (J.1, 16, .inl f)) : Nat × va_E)) (hz : 0 ≤ z ∧ z ≤ 16) : Met l yJ5_ensureCapacityInternal_d00df wsJ5_ensureCapacityInternal_d00df ({ frames := 7, cells := 0, slots := 0, locals := 100 }) (va_Pc [.ref (x), .int (zI (z))] (fun U => U.heap.size = sz ∧ jW D J A ws U)) (va_Qv (fun (_ : Unit) => True) (fun _ _ => True) (fun _ => False)) 0 0 A := by
  refine Met.ofW (cc := cJ5_ensureCapacityInternal_d00df) (maxL := 3) (ret := none) (by decide) rfl ?_
  intro p e s m args below meth c s₁ B hml hpc0
  obtain ⟨rfl, hsz, hP, hD, hZ⟩ := hpc0
  have hx := B.exec
  have hb := B.bytes
  have hr := B.returns
  have hts := atoms_spec (ws := wsJ5_ensureCapacityInternal_d00df) B.pre
  have hown : s.vm.findClass RJ5 = some m.cls := findClass_of_methodNamed B.named
  have hlocks := B.notSynchronized
  have hin : meth.name = "ensureCapacityInternal" := (name_of_methodNamed B.named B.method).1
  subst hsz
  have hK := hZ.1
  have hS : va_S A s.heap s.heap [] := va_S.rf
  have hk0 : ∀ x : Nat, x < s.heap.size → s.heap[x]? = s.heap[x]? := fun _ _ => rfl
  have hl := lv_entry ([.ref (x), .int (zI (z))]) (n := 3) (Nat.le_of_ble_eq_true rfl)
  rw [lg_entry_eq]
  generalize (lg_sl ([.ref (x), .int (zI (z))]) ++ List.replicate (3 - (lg_sl ([.ref (x), .int (zI (z))])).length) Slot.unset).toArray = ls at hl ⊢
  have hl : lv_has ls 3 [(0, .ref (x)), (1, .int (zI (z)))] := hl
  have k15 := hts (.fieldLink RJ5 15 "java/lang/AbstractStringBuilder" "value" "[B") (by decide +kernel)
  have k22 := hts (.fieldLink RJ5 22 "java/lang/AbstractStringBuilder" "coder" "B") (by decide +kernel)
  have inJ4 : ∀ w ∈ u_ws RJ4 TJ4 4, w ∈ wsJ5_ensureCapacityInternal_d00df := by decide +kernel
  refine lv_aload_n hx hb dJ5_ensureCapacityInternal_d00df_0 rfl (lv_at hl 0 rfl) ?_
  refine va_get (D := D) (ci := 1) (v := .ref (v)) (C := RJ4) (T := TJ4) (N := 4) hx hb hts inJ4 hown hK hP kx ex rfl 0 (by decide) k15 (fun _ h9 => h9) rfl dJ5_ensureCapacityInternal_d00df_1 ?_
  refine va_alen (v := zI (16)) hx hb hK hP kv 0 ev rfl (zI_nI _) dJ5_ensureCapacityInternal_d00df_4 ?_
  refine lv_aload_n hx hb dJ5_ensureCapacityInternal_d00df_5 rfl (lv_at hl 0 rfl) ?_
  refine va_get (D := D) (ci := 1) (v := .int (zI (0))) (C := RJ4) (T := TJ4) (N := 4) hx hb hts inJ4 hown hK hP kx ex rfl 1 (by decide) k22 (fun _ h9 => h9) rfl dJ5_ensureCapacityInternal_d00df_6 ?_
  refine z_ishr0 hx hb dJ5_ensureCapacityInternal_d00df_9 ?_
  refine lv_istore_n (lv' := [(2, .int (zI ((16 : Int)))), (0, .ref (x)), (1, .int (zI (z)))]) hx hb dJ5_ensureCapacityInternal_d00df_10 rfl hl (by decide) rfl (fun ls hl => ?_)
  refine lv_iload_n hx hb dJ5_ensureCapacityInternal_d00df_11 rfl (lv_at hl 2 rfl) ?_
  refine lv_iload_n hx hb dJ5_ensureCapacityInternal_d00df_12 rfl (lv_at hl 0 rfl) ?_
  refine z_isub hx hb dJ5_ensureCapacityInternal_d00df_13 ?_
  refine z_if_le (tgt := 38) hx hb dJ5_ensureCapacityInternal_d00df_14 (by decide) (by omega) (fun cd14 => ?_) (fun cd14 => ?_)
  · skip
    exact W.vret hx hb hr (fun t9 ht hW => ⟨⟨(), rfl, trivial, trivial⟩, vF_R ht hS.1 hk0⟩) hS.2.2 dJ5_ensureCapacityInternal_d00df_38
  · skip
    exfalso; omega
