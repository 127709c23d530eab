set_option maxHeartbeats 4000000 in
set_option maxRecDepth 100000 in
/-- whether a value is outside of two bounds -/
theorem c_X7_isOutside (l : Launch) (v : Int) (hv : rg v) (lo : Int) (hlo : rg lo) (hi : Int) (hhi : rg hi) : Met l yX7_isOutside wsX7_isOutside ({ frames := 7, cells := 0, slots := 0, locals := 100 }) (va_Pc [.int (zI (v)), .int (zI (lo)), .int (zI (hi))] (fun _ => True)) (va_Qi (fun (r : Int32) (_ : Unit) => (r = zI 1 ∧ (v < lo ∨ hi < v)) ∨ (r = zI 0 ∧ ¬ (v < lo ∨ hi < v))) (fun _ _ => True) (fun _ => False)) 0 0 (fun _ => False) := by
  refine Met.ofW (cc := cX7_isOutside) (maxL := 3) (ret := (some .boolean)) (by decide) rfl ?_
  intro p e s m args below meth c s₁ B hml hpc0
  obtain ⟨rfl, -⟩ := hpc0
  have hx := B.exec
  have hb := B.bytes
  have hr := B.returns
  have hts := atoms_spec (ws := wsX7_isOutside) B.pre
  have hown : s.vm.findClass RX7 = some m.cls := findClass_of_methodNamed B.named
  have hlocks := B.notSynchronized
  have hS : va_S (fun _ => False) s.heap s.heap [] := va_S.rf
  have hl := lv_entry ([.int (zI (v)), .int (zI (lo)), .int (zI (hi))]) (n := 3) (Nat.le_of_ble_eq_true rfl)
  rw [lg_entry_eq]
  generalize (lg_sl ([.int (zI (v)), .int (zI (lo)), .int (zI (hi))]) ++ List.replicate (3 - (lg_sl ([.int (zI (v)), .int (zI (lo)), .int (zI (hi))])).length) Slot.unset).toArray = ls at hl ⊢
  have hl : lv_has ls 3 [(0, .int (zI (v))), (1, .int (zI (lo))), (2, .int (zI (hi)))] := hl
  refine lv_iload_n hx hb dX7_isOutside_0 rfl (lv_at hl 0 rfl) ?_
  refine lv_iload_n hx hb dX7_isOutside_1 rfl (lv_at hl 1 rfl) ?_
  refine z_icmp_lt (tgt := 10) hx hb dX7_isOutside_2 (by decide) (by omega) (by omega) (fun cd2 => ?_) (fun cd2 => ?_)
  · skip
    refine lv_iconst (v := zI 1) hx hb dX7_isOutside_10 rfl ?_
    refine lv_goto (tgt := 15) hx hb dX7_isOutside_11 (by decide) ?_
    exact W.zret (v := zI 1) (ty := .boolean) hx hb hr (by decide +kernel) (fun t9 ht hW => ⟨⟨_, (), rfl, Or.inl ⟨rfl, (by omega)⟩, trivial⟩, vF_R ht hS.1 (fun x h9 => hS.2.1 x h9 (fun h => h))⟩) hS.2.2 dX7_isOutside_15
  · skip
    refine lv_iload_n hx hb dX7_isOutside_5 rfl (lv_at hl 0 rfl) ?_
    refine lv_iload_n hx hb dX7_isOutside_6 rfl (lv_at hl 2 rfl) ?_
    refine z_icmp_le (tgt := 14) hx hb dX7_isOutside_7 (by decide) (by omega) (by omega) (fun cd7 => ?_) (fun cd7 => ?_)
    · skip
      refine lv_iconst (v := zI 0) hx hb dX7_isOutside_14 rfl ?_
      exact W.zret (v := zI 0) (ty := .boolean) hx hb hr (by decide +kernel) (fun t9 ht hW => ⟨⟨_, (), rfl, Or.inr ⟨rfl, (by omega)⟩, trivial⟩, vF_R ht hS.1 (fun x h9 => hS.2.1 x h9 (fun h => h))⟩) hS.2.2 dX7_isOutside_15
    · skip
      refine lv_iconst (v := zI 1) hx hb dX7_isOutside_10 rfl ?_
      refine lv_goto (tgt := 15) hx hb dX7_isOutside_11 (by decide) ?_
      exact W.zret (v := zI 1) (ty := .boolean) hx hb hr (by decide +kernel) (fun t9 ht hW => ⟨⟨_, (), rfl, Or.inl ⟨rfl, (by omega)⟩, trivial⟩, vF_R ht hS.1 (fun x h9 => hS.2.1 x h9 (fun h => h))⟩) hS.2.2 dX7_isOutside_15

set_option maxHeartbeats 4000000 in
set_option maxRecDepth 100000 in
/-- X7_isNoAngle -/
theorem c_X7_isNoAngle (l : Launch) (v : Int) (hv : rg v) : Met l yX7_isNoAngle wsX7_isNoAngle ({ frames := 8, cells := 0, slots := 0, locals := 200 }) (va_Pc [.int (zI (v))] (fun _ => True)) (va_Qi (fun (r : Int32) (_ : Unit) => (r = zI 1 ∧ (v < 0 ∨ 23 < v)) ∨ (r = zI 0 ∧ ¬ (v < 0 ∨ 23 < v))) (fun _ _ => True) (fun _ => False)) 0 0 (fun _ => False) := by
  refine Met.ofW (cc := cX7_isNoAngle) (maxL := 1) (ret := (some .boolean)) (by decide) rfl ?_
  intro p e s m args below meth c s₁ B hml hpc0
  obtain ⟨rfl, -⟩ := hpc0
  have hx := B.exec
  have hb := B.bytes
  have hr := B.returns
  have hts := atoms_spec (ws := wsX7_isNoAngle) B.pre
  have hown : s.vm.findClass RX7 = some m.cls := findClass_of_methodNamed B.named
  have hlocks := B.notSynchronized
  have hS : va_S (fun _ => False) s.heap s.heap [] := va_S.rf
  have hl := lv_entry ([.int (zI (v))]) (n := 1) (Nat.le_of_ble_eq_true rfl)
  rw [lg_entry_eq]
  generalize (lg_sl ([.int (zI (v))]) ++ List.replicate (1 - (lg_sl ([.int (zI (v))])).length) Slot.unset).toArray = ls at hl ⊢
  have hl : lv_has ls 1 [(0, .int (zI (v)))] := hl
  refine lv_iload_n hx hb dX7_isNoAngle_0 rfl (lv_at hl 0 rfl) ?_
  refine lv_iconst (v := zI 0) hx hb dX7_isNoAngle_1 rfl ?_
  refine lv_bipush (v := zI 23) hx hb dX7_isNoAngle_2 (by decide +kernel) ?_
  refine va_calli (va_runS (As := [.int (zI (v)), .int (zI (0)), .int (zI (23))]) (rest := []) ⟨hx, hb, hml, hown, hts⟩ (c_X7_isOutside l (v) (by omega) (0) (by omega) (23) (by omega)) (va_cwS 3 hts gX7_isNoAngle_X7_isOutside rfl rfl rfl (by decide +kernel) ⟨Nat.le_of_ble_eq_true rfl, Nat.le_of_ble_eq_true rfl⟩) ⟨fun _ _ _ _ h => h, fun _ _ _ => ⟨rfl, trivial⟩⟩ rfl rfl hl.1 rfl (lv_room (Nat.le_of_ble_eq_true rfl)) dX7_isNoAngle_4 ⟨(show 0 + 0 ≤ 0 by omega), (show 0 + 0 ≤ 0 by omega)⟩) hS (fun _ _ h => h.elim) (fun _ h => h.elim) (fun rv4 u9 t9 H locs ht hvm hw hB hz hk hS1 => ?_)
  have hS := hS1
  rcases hw with ⟨rfl, bd4⟩ | ⟨rfl, bd4⟩
  · skip
    refine W.widen (k := 0) (n := 0) (by omega) (by omega) ?_
    exact W.zret (v := zI 1) (ty := .boolean) hx hb hr (by decide +kernel) (fun t9 ht hW => ⟨⟨_, (), rfl, Or.inl ⟨rfl, (by omega)⟩, trivial⟩, vF_R ht hS.1 (fun x h9 => hS.2.1 x h9 (fun h => h))⟩) hS.2.2 dX7_isNoAngle_7
  · skip
    refine W.widen (k := 0) (n := 0) (by omega) (by omega) ?_
    exact W.zret (v := zI 0) (ty := .boolean) hx hb hr (by decide +kernel) (fun t9 ht hW => ⟨⟨_, (), rfl, Or.inr ⟨rfl, (by omega)⟩, trivial⟩, vF_R ht hS.1 (fun x h9 => hS.2.1 x h9 (fun h => h))⟩) hS.2.2 dX7_isNoAngle_7

set_option maxHeartbeats 4000000 in
set_option maxRecDepth 100000 in
/-- X7_tenthRoundedUp -/
theorem c_X7_tenthRoundedUp (l : Launch) (v : Int) (hv : rg v) (hv0 : 0 ≤ v ∧ v ≤ 1000000) : Met l yX7_tenthRoundedUp wsX7_tenthRoundedUp ({ frames := 7, cells := 0, slots := 0, locals := 100 }) (va_Pc [.int (zI (v))] (fun _ => True)) (va_Qi (fun (r : Int32) (_ : Unit) => r = zI ((v + 9) / 10)) (fun _ _ => True) (fun _ => False)) 0 0 (fun _ => False) := by
  refine Met.ofW (cc := cX7_tenthRoundedUp) (maxL := 1) (ret := (some .int)) (by decide) rfl ?_
  intro p e s m args below meth c s₁ B hml hpc0
  obtain ⟨rfl, -⟩ := hpc0
  have hx := B.exec
  have hb := B.bytes
  have hr := B.returns
  have hts := atoms_spec (ws := wsX7_tenthRoundedUp) B.pre
  have hown : s.vm.findClass RX7 = some m.cls := findClass_of_methodNamed B.named
  have hlocks := B.notSynchronized
  have hS : va_S (fun _ => False) s.heap s.heap [] := va_S.rf
  have hl := lv_entry ([.int (zI (v))]) (n := 1) (Nat.le_of_ble_eq_true rfl)
  rw [lg_entry_eq]
  generalize (lg_sl ([.int (zI (v))]) ++ List.replicate (1 - (lg_sl ([.int (zI (v))])).length) Slot.unset).toArray = ls at hl ⊢
  have hl : lv_has ls 1 [(0, .int (zI (v)))] := hl
  refine lv_iload_n hx hb dX7_tenthRoundedUp_0 rfl (lv_at hl 0 rfl) ?_
  refine lv_bipush (v := zI 9) hx hb dX7_tenthRoundedUp_1 (by decide +kernel) ?_
  refine z_iadd hx hb dX7_tenthRoundedUp_3 ?_
  refine lv_bipush (v := zI 10) hx hb dX7_tenthRoundedUp_4 (by decide +kernel) ?_
  refine z_idiv hx hb dX7_tenthRoundedUp_6 (by omega) (by omega) ?_
  exact W.iret (v := zI ((v + 9) / 10)) hx hb hr (fun t9 ht hW => ⟨⟨_, (), rfl, (by first | rfl | (congr 1; omega)), trivial⟩, vF_R ht hS.1 (fun x h9 => hS.2.1 x h9 (fun h => h))⟩) hS.2.2 dX7_tenthRoundedUp_7

set_option maxHeartbeats 4000000 in
set_option maxRecDepth 100000 in
/-- J9_floorMod_7cf53 -/
theorem c_J9_floorMod_7cf53 (l : Launch) (x : Int) (hx : rg x) : Met l yJ9_floorMod_7cf53 wsJ9_floorMod_7cf53 ({ frames := 7, cells := 0, slots := 0, locals := 100 }) (va_Pc [.int (zI (x)), .int (zI (24))] (fun _ => True)) (va_Qi (fun (r : Int32) (_ : Unit) => r = zI (x % 24)) (fun _ _ => True) (fun _ => False)) 0 0 (fun _ => False) := by
  refine va_MetF (cc := cJ9_floorMod_7cf53) (maxL := 3) (ret := (some .int)) (by decide +kernel) rfl ?_
  intro p e s m args below meth c s₁ B hml hpc0
  obtain ⟨rfl, -⟩ := hpc0
  have hx := B.exec
  have hb := B.bytes
  have hr := B.returns
  have hts := atoms_spec (ws := wsJ9_floorMod_7cf53) B.pre
  have hown : s.vm.findClass RJ9 = some m.cls := findClass_of_methodNamed B.named
  have hlocks := B.notSynchronized
  have hS : va_S (fun _ => False) s.heap s.heap [] := va_S.rf
  have hl := lv_entry ([.int (zI (x)), .int (zI (24))]) (n := 3) (Nat.le_of_ble_eq_true rfl)
  rw [lg_entry_eq]
  generalize (lg_sl ([.int (zI (x)), .int (zI (24))]) ++ List.replicate (3 - (lg_sl ([.int (zI (x)), .int (zI (24))])).length) Slot.unset).toArray = ls at hl ⊢
  have hl : lv_has ls 3 [(0, .int (zI (x))), (1, .int (zI (24)))] := hl
  have hx0 : rg x := by assumption
  refine lv_iload_n hx hb dJ9_floorMod_7cf53_0 rfl (lv_at hl 0 rfl) ?_
  refine lv_iload_n hx hb dJ9_floorMod_7cf53_1 rfl (lv_at hl 1 rfl) ?_
  have hn9 : ¬ 0 ≤ x → x.tmod 24 = -((-x) % 24) := fun h => by
    rw [show x = -(-x) by omega, Int.neg_tmod, Int.tmod_eq_emod_of_nonneg (by omega)]
    omega
  have hp9 : 0 ≤ x → x.tmod 24 = x % 24 := fun h => Int.tmod_eq_emod_of_nonneg h
  refine lv_irem hx hb dJ9_floorMod_7cf53_2 (zI_ne0 (by decide) (by decide)) ?_
  rw [zI_rem_t x 24 hx0 (by decide) (by omega)]
  refine lv_istore_n (lv' := [(2, .int (zI (x.tmod 24))), (0, .int (zI (x))), (1, .int (zI (24)))]) hx hb dJ9_floorMod_7cf53_3 rfl hl (by decide) rfl (fun ls hl => ?_)
  refine lv_iload_n hx hb dJ9_floorMod_7cf53_4 rfl (lv_at hl 1 rfl) ?_
  refine lv_iload_n hx hb dJ9_floorMod_7cf53_5 rfl (lv_at hl 2 rfl) ?_
  refine lv_ixor hx hb dJ9_floorMod_7cf53_6 ?_
  refine lv_if_ge (tgt := 18) hx hb dJ9_floorMod_7cf53_7 (by decide) (fun cs1 => ?_) (fun cs1 => ?_)
  · skip
    rw [zI_xor_sign hx0 (by decide) (by decide)] at cs1
    refine lv_iload_n hx hb dJ9_floorMod_7cf53_18 rfl (lv_at hl 0 rfl) ?_
    exact W.iret (v := zI (x.tmod 24)) hx hb hr (fun t9 ht hW => ⟨⟨_, (), rfl, (by congr 1; omega), trivial⟩, vF_R ht hS.1 (fun x h9 => hS.2.1 x h9 (fun h => h))⟩) hS.2.2 dJ9_floorMod_7cf53_19
  · skip
    rw [zI_xor_sign hx0 (by decide) (by decide)] at cs1
    refine lv_iload_n hx hb dJ9_floorMod_7cf53_10 rfl (lv_at hl 0 rfl) ?_
    refine z_if_eq (tgt := 18) hx hb dJ9_floorMod_7cf53_11 (by decide) (by omega) (fun cd11 => ?_) (fun cd11 => ?_)
    · skip
      refine lv_iload_n hx hb dJ9_floorMod_7cf53_18 rfl (lv_at hl 0 rfl) ?_
      exact W.iret (v := zI (x.tmod 24)) hx hb hr (fun t9 ht hW => ⟨⟨_, (), rfl, (by congr 1; omega), trivial⟩, vF_R ht hS.1 (fun x h9 => hS.2.1 x h9 (fun h => h))⟩) hS.2.2 dJ9_floorMod_7cf53_19
    · skip
      refine lv_iload_n hx hb dJ9_floorMod_7cf53_14 rfl (lv_at hl 0 rfl) ?_
      refine lv_iload_n hx hb dJ9_floorMod_7cf53_15 rfl (lv_at hl 2 rfl) ?_
      refine z_iadd hx hb dJ9_floorMod_7cf53_16 ?_
      exact W.iret (v := zI ((x.tmod 24) + 24)) hx hb hr (fun t9 ht hW => ⟨⟨_, (), rfl, (by congr 1; omega), trivial⟩, vF_R ht hS.1 (fun x h9 => hS.2.1 x h9 (fun h => h))⟩) hS.2.2 dJ9_floorMod_7cf53_17

set_option maxHeartbeats 4000000 in
set_option maxRecDepth 100000 in
/-- X7_risingSteps -/
theorem c_X7_risingSteps (l : Launch) (f : Int) (hf : rg f) (t : Int) (ht : rg t) (hf9 : -1000 ≤ f ∧ f ≤ 1000) (ht9 : -1000 ≤ t ∧ t ≤ 1000) : Met l yX7_risingSteps wsX7_risingSteps ({ frames := 8, cells := 0, slots := 0, locals := 200 }) (va_Pc [.int (zI (f)), .int (zI (t))] (fun _ => True)) (va_Qi (fun (r : Int32) (_ : Unit) => r = zI ((t - f) % 24)) (fun _ _ => True) (fun _ => False)) 0 0 (fun _ => False) := by
  refine Met.ofW (cc := cX7_risingSteps) (maxL := 2) (ret := (some .int)) (by decide) rfl ?_
  intro p e s m args below meth c s₁ B hml hpc0
  obtain ⟨rfl, -⟩ := hpc0
  have hx := B.exec
  have hb := B.bytes
  have hr := B.returns
  have hts := atoms_spec (ws := wsX7_risingSteps) B.pre
  have hown : s.vm.findClass RX7 = some m.cls := findClass_of_methodNamed B.named
  have hlocks := B.notSynchronized
  have hS : va_S (fun _ => False) s.heap s.heap [] := va_S.rf
  have hl := lv_entry ([.int (zI (f)), .int (zI (t))]) (n := 2) (Nat.le_of_ble_eq_true rfl)
  rw [lg_entry_eq]
  generalize (lg_sl ([.int (zI (f)), .int (zI (t))]) ++ List.replicate (2 - (lg_sl ([.int (zI (f)), .int (zI (t))])).length) Slot.unset).toArray = ls at hl ⊢
  have hl : lv_has ls 2 [(0, .int (zI (f))), (1, .int (zI (t)))] := hl
  refine lv_iload_n hx hb dX7_risingSteps_0 rfl (lv_at hl 1 rfl) ?_
  refine lv_iload_n hx hb dX7_risingSteps_1 rfl (lv_at hl 0 rfl) ?_
  refine z_isub hx hb dX7_risingSteps_2 ?_
  refine lv_bipush (v := zI 24) hx hb dX7_risingSteps_3 (by decide +kernel) ?_
  refine va_calli (va_runS (As := [.int (zI (t - f)), .int (zI (24))]) (rest := []) ⟨hx, hb, hml, hown, hts⟩ (c_J9_floorMod_7cf53 l (t - f) (by omega)) (va_cwS 2 hts gX7_risingSteps_J9_floorMod_7cf53 rfl rfl rfl (by decide +kernel) ⟨Nat.le_of_ble_eq_true rfl, Nat.le_of_ble_eq_true rfl⟩) ⟨fun _ _ _ _ h => h, fun _ _ _ => ⟨rfl, trivial⟩⟩ rfl rfl hl.1 rfl (lv_room (Nat.le_of_ble_eq_true rfl)) dX7_risingSteps_5 ⟨(show 0 + 0 ≤ 0 by omega), (show 0 + 0 ≤ 0 by omega)⟩) hS (fun _ _ h => h.elim) (fun _ h => h.elim) (fun rv5 u9 t9 H locs ht hvm hw hB hz hk hS1 => ?_)
  have hS := hS1
  obtain rfl := hw
  refine W.widen (k := 0) (n := 0) (by omega) (by omega) ?_
  exact W.iret (v := zI ((t - f) % 24)) hx hb hr (fun t9 ht hW => ⟨⟨_, (), rfl, (by first | rfl | (congr 1; omega)), trivial⟩, vF_R ht hS.1 (fun x h9 => hS.2.1 x h9 (fun h => h))⟩) hS.2.2 dX7_risingSteps_8

set_option maxHeartbeats 4000000 in
set_option maxRecDepth 100000 in
/-- X7_stepsBetween -/
theorem c_X7_stepsBetween (l : Launch) (f : Int) (hf : rg f) (t : Int) (ht : rg t) (hf9 : -1000 ≤ f ∧ f ≤ 1000) (ht9 : -1000 ≤ t ∧ t ≤ 1000) : Met l yX7_stepsBetween wsX7_stepsBetween ({ frames := 9, cells := 0, slots := 0, locals := 300 }) (va_Pc [.int (zI (f)), .int (zI (t))] (fun _ => True)) (va_Qi (fun (r : Int32) (_ : Unit) => r = zI (stF f t)) (fun _ _ => True) (fun _ => False)) 0 0 (fun _ => False) := by
  refine Met.ofW (cc := cX7_stepsBetween) (maxL := 3) (ret := (some .int)) (by decide) rfl ?_
  intro p e s m args below meth c s₁ B hml hpc0
  obtain ⟨rfl, -⟩ := hpc0
  have hx := B.exec
  have hb := B.bytes
  have hr := B.returns
  have hts := atoms_spec (ws := wsX7_stepsBetween) B.pre
  have hown : s.vm.findClass RX7 = some m.cls := findClass_of_methodNamed B.named
  have hlocks := B.notSynchronized
  have hS : va_S (fun _ => False) s.heap s.heap [] := va_S.rf
  have hl := lv_entry ([.int (zI (f)), .int (zI (t))]) (n := 3) (Nat.le_of_ble_eq_true rfl)
  rw [lg_entry_eq]
  generalize (lg_sl ([.int (zI (f)), .int (zI (t))]) ++ List.replicate (3 - (lg_sl ([.int (zI (f)), .int (zI (t))])).length) Slot.unset).toArray = ls at hl ⊢
  have hl : lv_has ls 3 [(0, .int (zI (f))), (1, .int (zI (t)))] := hl
  refine lv_iload_n hx hb dX7_stepsBetween_0 rfl (lv_at hl 0 rfl) ?_
  refine lv_iload_n hx hb dX7_stepsBetween_1 rfl (lv_at hl 1 rfl) ?_
  refine va_calli (va_runS (As := [.int (zI (f)), .int (zI (t))]) (rest := []) ⟨hx, hb, hml, hown, hts⟩ (c_X7_risingSteps l (f) (by omega) (t) (by omega) (by first | assumption | omega) (by first | assumption | omega)) (va_cwS 2 hts gX7_stepsBetween_X7_risingSteps rfl rfl rfl (by decide +kernel) ⟨Nat.le_of_ble_eq_true rfl, Nat.le_of_ble_eq_true rfl⟩) ⟨fun _ _ _ _ h => h, fun _ _ _ => ⟨rfl, trivial⟩⟩ rfl rfl hl.1 rfl (lv_room (Nat.le_of_ble_eq_true rfl)) dX7_stepsBetween_2 ⟨(show 0 + 0 ≤ 0 by omega), (show 0 + 0 ≤ 0 by omega)⟩) hS (fun _ _ h => h.elim) (fun _ h => h.elim) (fun rv2 u9 t9 H locs ht hvm hw hB hz hk hS1 => ?_)
  have hS := hS1
  obtain rfl := hw
  refine lv_istore_n (lv' := [(2, .int (zI ((t - f) % 24))), (0, .int (zI (f))), (1, .int (zI (t)))]) hx hb dX7_stepsBetween_5 rfl hl (by decide) rfl (fun ls hl => ?_)
  refine lv_iload_n hx hb dX7_stepsBetween_6 rfl (lv_at hl 0 rfl) ?_
  refine lv_bipush (v := zI 24) hx hb dX7_stepsBetween_7 (by decide +kernel) ?_
  refine lv_iload_n hx hb dX7_stepsBetween_9 rfl (lv_at hl 0 rfl) ?_
  refine z_isub hx hb dX7_stepsBetween_10 ?_
  refine va_mmin hx hb (by rw [hml]; exact hl.1.symm) hown (hts (.methodLink RX7 363 Lib.Math.min.name) (by decide +kernel)) (hts (.static Lib.Math.min.name) (by decide +kernel)) (hts (.initialized "java/lang/Math") (by decide +kernel)) (hts (.code Lib.Math.min.name Lib.Math.min.code 2 (some .int)) (by decide +kernel)) (Nat.le_of_ble_eq_true rfl) (Nat.le_of_ble_eq_true rfl) (show 0 + 0 ≤ 0 by omega) (show 0 + 0 ≤ 0 by omega) dX7_stepsBetween_11 ?_
  rw [zmin (x := (t - f) % 24) (y := 24 - ((t - f) % 24)) (by omega) (by omega)]
  refine W.widen (k := 0) (n := 0) (by omega) (by omega) ?_
  exact W.iret (v := zI (mnI ((t - f) % 24) (24 - ((t - f) % 24)))) hx hb hr (fun t9 ht hW => ⟨⟨_, (), rfl, rfl, trivial⟩, vF_R ht hS.1 (fun x h9 => hS.2.1 x h9 (fun h => h))⟩) hS.2.2 dX7_stepsBetween_14

set_option maxHeartbeats 4000000 in
set_option maxRecDepth 100000 in
/-- X7_angleTowards -/
theorem c_X7_angleTowards (l : Launch) (f : Int) (hf : rg f) (t : Int) (ht : rg t) (hf9 : -1000 ≤ f ∧ f ≤ 1000) (ht9 : -1000 ≤ t ∧ t ≤ 1000) : Met l yX7_angleTowards wsX7_angleTowards ({ frames := 9, cells := 0, slots := 0, locals := 300 }) (va_Pc [.int (zI (f)), .int (zI (t))] (fun _ => True)) (va_Qi (fun (r : Int32) (_ : Unit) => r = zI (anF f t)) (fun _ _ => True) (fun _ => False)) 0 0 (fun _ => False) := by
  refine Met.ofW (cc := cX7_angleTowards) (maxL := 4) (ret := (some .int)) (by decide) rfl ?_
  intro p e s m args below meth c s₁ B hml hpc0
  obtain ⟨rfl, -⟩ := hpc0
  have hx := B.exec
  have hb := B.bytes
  have hr := B.returns
  have hts := atoms_spec (ws := wsX7_angleTowards) B.pre
  have hown : s.vm.findClass RX7 = some m.cls := findClass_of_methodNamed B.named
  have hlocks := B.notSynchronized
  have hS : va_S (fun _ => False) s.heap s.heap [] := va_S.rf
  have hl := lv_entry ([.int (zI (f)), .int (zI (t))]) (n := 4) (Nat.le_of_ble_eq_true rfl)
  rw [lg_entry_eq]
  generalize (lg_sl ([.int (zI (f)), .int (zI (t))]) ++ List.replicate (4 - (lg_sl ([.int (zI (f)), .int (zI (t))])).length) Slot.unset).toArray = ls at hl ⊢
  have hl : lv_has ls 4 [(0, .int (zI (f))), (1, .int (zI (t)))] := hl
  refine lv_iload_n hx hb dX7_angleTowards_0 rfl (lv_at hl 0 rfl) ?_
  refine lv_iload_n hx hb dX7_angleTowards_1 rfl (lv_at hl 1 rfl) ?_
  refine va_calli (va_runS (As := [.int (zI (f)), .int (zI (t))]) (rest := []) ⟨hx, hb, hml, hown, hts⟩ (c_X7_risingSteps l (f) (by omega) (t) (by omega) (by first | assumption | omega) (by first | assumption | omega)) (va_cwS 2 hts gX7_angleTowards_X7_risingSteps rfl rfl rfl (by decide +kernel) ⟨Nat.le_of_ble_eq_true rfl, Nat.le_of_ble_eq_true rfl⟩) ⟨fun _ _ _ _ h => h, fun _ _ _ => ⟨rfl, trivial⟩⟩ rfl rfl hl.1 rfl (lv_room (Nat.le_of_ble_eq_true rfl)) dX7_angleTowards_2 ⟨(show 0 + 0 ≤ 0 by omega), (show 0 + 0 ≤ 0 by omega)⟩) hS (fun _ _ h => h.elim) (fun _ h => h.elim) (fun rv2 u9 t9 H locs ht hvm hw hB hz hk hS1 => ?_)
  have hS := hS1
  obtain rfl := hw
  refine lv_istore_n (lv' := [(2, .int (zI ((t - f) % 24))), (0, .int (zI (f))), (1, .int (zI (t)))]) hx hb dX7_angleTowards_5 rfl hl (by decide) rfl (fun ls hl => ?_)
  refine lv_iload_n hx hb dX7_angleTowards_6 rfl (lv_at hl 0 rfl) ?_
  refine z_if_ne (tgt := 12) hx hb dX7_angleTowards_7 (by decide) (by omega) (fun cd7 => ?_) (fun cd7 => ?_)
  · skip
    refine lv_iload_n hx hb dX7_angleTowards_12 rfl (lv_at hl 0 rfl) ?_
    refine lv_bipush (v := zI 24) hx hb dX7_angleTowards_13 (by decide +kernel) ?_
    refine lv_iload_n hx hb dX7_angleTowards_15 rfl (lv_at hl 0 rfl) ?_
    refine z_isub hx hb dX7_angleTowards_16 ?_
    refine z_icmp_gt (tgt := 24) hx hb dX7_angleTowards_17 (by decide) (by omega) (by omega) (fun cd17 => ?_) (fun cd17 => ?_)
    · skip
      refine lv_iconst (v := zI (-1)) hx hb dX7_angleTowards_24 rfl ?_
      refine lv_istore_n (lv' := [(3, .int (zI (-1))), (2, .int (zI ((t - f) % 24))), (0, .int (zI (f))), (1, .int (zI (t)))]) hx hb dX7_angleTowards_25 rfl hl (by decide) rfl (fun ls hl => ?_)
      refine lv_iload_n hx hb dX7_angleTowards_26 rfl (lv_at hl 2 rfl) ?_
      refine lv_iload_n hx hb dX7_angleTowards_27 rfl (lv_at hl 0 rfl) ?_
      refine z_iadd hx hb dX7_angleTowards_28 ?_
      refine lv_bipush (v := zI 24) hx hb dX7_angleTowards_29 (by decide +kernel) ?_
      refine va_calli (va_runS (As := [.int (zI (f + (-1))), .int (zI (24))]) (rest := []) ⟨hx, hb, hml, hown, hts⟩ (c_J9_floorMod_7cf53 l (f + (-1)) (by omega)) (va_cwS 2 hts gX7_angleTowards_J9_floorMod_7cf53 rfl rfl rfl (by decide +kernel) ⟨Nat.le_of_ble_eq_true rfl, Nat.le_of_ble_eq_true rfl⟩) ⟨fun _ _ _ _ h => h, fun _ _ _ => ⟨rfl, trivial⟩⟩ rfl rfl hl.1 rfl (lv_room (Nat.le_of_ble_eq_true rfl)) dX7_angleTowards_31 ⟨(show 0 + 0 + 0 ≤ 0 by omega), (show 0 + 0 + 0 ≤ 0 by omega)⟩) hS (fun _ _ h => h.elim) (fun _ h => h.elim) (fun rv31 u9 t9 H locs ht hvm hw hB hz hk hS1 => ?_)
      have hS := hS1
      obtain rfl := hw
      refine W.widen (k := 0) (n := 0) (by omega) (by omega) ?_
      exact W.iret (v := zI ((f + (-1)) % 24)) hx hb hr (fun t9 ht hW => ⟨⟨_, (), rfl, (by congr 1; unfold anF; (repeat' split) <;> omega), trivial⟩, vF_R ht hS.1 (fun x h9 => hS.2.1 x h9 (fun h => h))⟩) hS.2.2 dX7_angleTowards_34
    · skip
      refine lv_iconst (v := zI 1) hx hb dX7_angleTowards_20 rfl ?_
      refine lv_goto (tgt := 25) hx hb dX7_angleTowards_21 (by decide) ?_
      refine lv_istore_n (lv' := [(3, .int (zI (1))), (2, .int (zI ((t - f) % 24))), (0, .int (zI (f))), (1, .int (zI (t)))]) hx hb dX7_angleTowards_25 rfl hl (by decide) rfl (fun ls hl => ?_)
      refine lv_iload_n hx hb dX7_angleTowards_26 rfl (lv_at hl 2 rfl) ?_
      refine lv_iload_n hx hb dX7_angleTowards_27 rfl (lv_at hl 0 rfl) ?_
      refine z_iadd hx hb dX7_angleTowards_28 ?_
      refine lv_bipush (v := zI 24) hx hb dX7_angleTowards_29 (by decide +kernel) ?_
      refine va_calli (va_runS (As := [.int (zI (f + 1)), .int (zI (24))]) (rest := []) ⟨hx, hb, hml, hown, hts⟩ (c_J9_floorMod_7cf53 l (f + 1) (by omega)) (va_cwS 2 hts gX7_angleTowards_J9_floorMod_7cf53 rfl rfl rfl (by decide +kernel) ⟨Nat.le_of_ble_eq_true rfl, Nat.le_of_ble_eq_true rfl⟩) ⟨fun _ _ _ _ h => h, fun _ _ _ => ⟨rfl, trivial⟩⟩ rfl rfl hl.1 rfl (lv_room (Nat.le_of_ble_eq_true rfl)) dX7_angleTowards_31 ⟨(show 0 + 0 + 0 ≤ 0 by omega), (show 0 + 0 + 0 ≤ 0 by omega)⟩) hS (fun _ _ h => h.elim) (fun _ h => h.elim) (fun rv31 u9 t9 H locs ht hvm hw hB hz hk hS1 => ?_)
      have hS := hS1
      obtain rfl := hw
      refine W.widen (k := 0) (n := 0) (by omega) (by omega) ?_
      exact W.iret (v := zI ((f + 1) % 24)) hx hb hr (fun t9 ht hW => ⟨⟨_, (), rfl, (by congr 1; unfold anF; (repeat' split) <;> omega), trivial⟩, vF_R ht hS.1 (fun x h9 => hS.2.1 x h9 (fun h => h))⟩) hS.2.2 dX7_angleTowards_34
  · skip
    refine lv_iload_n hx hb dX7_angleTowards_10 rfl (lv_at hl 1 rfl) ?_
    refine W.widen (k := 0) (n := 0) (by omega) (by omega) ?_
    exact W.iret (v := zI (f)) hx hb hr (fun t9 ht hW => ⟨⟨_, (), rfl, (by congr 1; unfold anF; (repeat' split) <;> omega), trivial⟩, vF_R ht hS.1 (fun x h9 => hS.2.1 x h9 (fun h => h))⟩) hS.2.2 dX7_angleTowards_11

set_option maxHeartbeats 4000000 in
set_option maxRecDepth 100000 in
/-- X0_tableLoad -/
theorem c_X0_tableLoad (l : Launch) (D : va_G) (cy : Nat → ClassId) (a q : Nat → Nat) (σ : Nat → Nat → Int) (sz : Nat) (i : Nat) (hi : i < 3) (n : Int) (hn : rg n) : Met l yX0_tableLoad wsX0_tableLoad ({ frames := 7, cells := 0, slots := 0, locals := 100 }) (va_Pc [.ref (a (3 + i)), .int (zI (n))] (fun U => U.heap.size = sz ∧ Wd D cy a q σ U)) (va_Qi (fun (r : Int32) (_ : Unit) => r = zI (tlF (σ (3 + i)) n)) (fun _ _ => True) (fun _ => False)) 0 0 (wF a sz) := by
  refine Met.ofW (cc := cX0_tableLoad) (maxL := 2) (ret := (some .int)) (by decide) rfl ?_
  intro p e s m args below meth c s₁ B hml hpc0
  obtain ⟨rfl, hsz, hW0⟩ := hpc0
  have hx := B.exec
  have hb := B.bytes
  have hr := B.returns
  have hts := atoms_spec (ws := wsX0_tableLoad) B.pre
  have hown : s.vm.findClass RX0 = some m.cls := findClass_of_methodNamed B.named
  have hlocks := B.notSynchronized
  subst hsz
  obtain ⟨hP00, hE0⟩ := id hW0
  obtain ⟨hK, hinj, hU0, hN0, hstr, hnest⟩ := id hE0
  have hP : va_P D vwCl (wld cy a q σ ++ []) s.heap := by rw [List.append_nil]; exact hP00
  have hD : va_D (wF a s.heap.size) (wld cy a q σ ++ []) := wD_of hinj
  have hA : ∀ x : Nat, s.heap.size ≤ x → wF a s.heap.size x := fun _ h => Or.inr h
  have hS : va_S (wF a s.heap.size) s.heap s.heap [] := va_S.rf
  have hk0 : ∀ x : Nat, x < s.heap.size → s.heap[x]? = s.heap[x]? := fun _ _ => rfl
  have hl := lv_entry ([.ref (a (3 + i)), .int (zI (n))]) (n := 2) (Nat.le_of_ble_eq_true rfl)
  rw [lg_entry_eq]
  generalize (lg_sl ([.ref (a (3 + i)), .int (zI (n))]) ++ List.replicate (2 - (lg_sl ([.ref (a (3 + i)), .int (zI (n))])).length) Slot.unset).toArray = ls at hl ⊢
  have hl : lv_has ls 2 [(0, .ref (a (3 + i))), (1, .int (zI (n)))] := hl
  have k31 := hts (.fieldLink RX0 31 "Slewfree$Crane" "ten" "I") (by decide +kernel)
  have k34 := hts (.fieldLink RX0 34 "Slewfree$Crane" "twenty" "I") (by decide +kernel)
  have k37 := hts (.fieldLink RX0 37 "Slewfree$Crane" "thirty" "I") (by decide +kernel)
  have k40 := hts (.fieldLink RX0 40 "Slewfree$Crane" "forty" "I") (by decide +kernel)
  have inX0 : ∀ w ∈ u_ws RX0 TX0 12, w ∈ wsX0_tableLoad := by decide +kernel
  refine lv_iload_n hx hb dX0_tableLoad_0 rfl (lv_at hl 1 rfl) ?_
  have hx1 : (zI (n)).toInt = n := zI_toInt (by omega)
  by_cases cd1 : n < 1 ∨ 3 < n
  · refine lv_tableOut (tgt := 43) hx hb dX0_tableLoad_1 (by rw [hx1]; exact cd1) (by decide) ?_
    refine lv_aload_n hx hb dX0_tableLoad_43 rfl (lv_at hl 0 rfl) ?_
    refine va_get (D := D) (ci := 2) (v := .int (zI (σ (3 + i) 9))) (C := RX0) (T := TX0) (N := 12) hx hb hts inX0 hown hK hP (3 + i) (wg_C (i := i) (by first | assumption | omega)) rfl 9 (by decide) k40 (fun _ h9 => h9) rfl dX0_tableLoad_44 ?_
    exact W.iret (v := zI (σ (3 + i) 9)) hx hb hr (fun t9 ht hW => ⟨⟨_, (), rfl, (by congr 1; unfold tlF; (repeat' split) <;> omega), trivial⟩, vF_R ht hS.1 hk0⟩) hS.2.2 dX0_tableLoad_47
  · rcases (show n = 1 ∨ n = 2 ∨ n = 3 by omega) with cd1 | cd1 | cd1
    · refine lv_tableIn (off := 27) (tgt := 28) hx hb dX0_tableLoad_1 (by rw [hx1]; omega) (by rw [hx1]; omega) (by rw [hx1, cd1]; rfl) (by decide) ?_
      refine lv_aload_n hx hb dX0_tableLoad_28 rfl (lv_at hl 0 rfl) ?_
      refine va_get (D := D) (ci := 2) (v := .int (zI (σ (3 + i) 6))) (C := RX0) (T := TX0) (N := 12) hx hb hts inX0 hown hK hP (3 + i) (wg_C (i := i) (by first | assumption | omega)) rfl 6 (by decide) k31 (fun _ h9 => h9) rfl dX0_tableLoad_29 ?_
      exact W.iret (v := zI (σ (3 + i) 6)) hx hb hr (fun t9 ht hW => ⟨⟨_, (), rfl, (by congr 1; unfold tlF; (repeat' split) <;> omega), trivial⟩, vF_R ht hS.1 hk0⟩) hS.2.2 dX0_tableLoad_32
    · refine lv_tableIn (off := 32) (tgt := 33) hx hb dX0_tableLoad_1 (by rw [hx1]; omega) (by rw [hx1]; omega) (by rw [hx1, cd1]; rfl) (by decide) ?_
      refine lv_aload_n hx hb dX0_tableLoad_33 rfl (lv_at hl 0 rfl) ?_
      refine va_get (D := D) (ci := 2) (v := .int (zI (σ (3 + i) 7))) (C := RX0) (T := TX0) (N := 12) hx hb hts inX0 hown hK hP (3 + i) (wg_C (i := i) (by first | assumption | omega)) rfl 7 (by decide) k34 (fun _ h9 => h9) rfl dX0_tableLoad_34 ?_
      exact W.iret (v := zI (σ (3 + i) 7)) hx hb hr (fun t9 ht hW => ⟨⟨_, (), rfl, (by congr 1; unfold tlF; (repeat' split) <;> omega), trivial⟩, vF_R ht hS.1 hk0⟩) hS.2.2 dX0_tableLoad_37
    · refine lv_tableIn (off := 37) (tgt := 38) hx hb dX0_tableLoad_1 (by rw [hx1]; omega) (by rw [hx1]; omega) (by rw [hx1, cd1]; rfl) (by decide) ?_
      refine lv_aload_n hx hb dX0_tableLoad_38 rfl (lv_at hl 0 rfl) ?_
      refine va_get (D := D) (ci := 2) (v := .int (zI (σ (3 + i) 8))) (C := RX0) (T := TX0) (N := 12) hx hb hts inX0 hown hK hP (3 + i) (wg_C (i := i) (by first | assumption | omega)) rfl 8 (by decide) k37 (fun _ h9 => h9) rfl dX0_tableLoad_39 ?_
      exact W.iret (v := zI (σ (3 + i) 8)) hx hb hr (fun t9 ht hW => ⟨⟨_, (), rfl, (by congr 1; unfold tlF; (repeat' split) <;> omega), trivial⟩, vF_R ht hS.1 hk0⟩) hS.2.2 dX0_tableLoad_42

set_option maxHeartbeats 4000000 in
set_option maxRecDepth 100000 in
/-- X0_capacityAt -/
theorem c_X0_capacityAt (l : Launch) (D : va_G) (cy : Nat → ClassId) (a q : Nat → Nat) (σ : Nat → Nat → Int) (sz : Nat) (i : Nat) (hi : i < 3) (d : Int) (hd : rg d) (w : Int) (hw : rg w) (hd0 : 10 ≤ d ∧ d ≤ 40) (hw0 : 0 ≤ w ∧ w ≤ 100) (hT : 0 ≤ σ (3 + i) 9 ∧ σ (3 + i) 9 ≤ σ (3 + i) 8 ∧ σ (3 + i) 8 ≤ σ (3 + i) 7 ∧ σ (3 + i) 7 ≤ σ (3 + i) 6 ∧ σ (3 + i) 6 ≤ 99) (h29 : rg (σ (3 + i) 2)) : Met l yX0_capacityAt wsX0_capacityAt ({ frames := 8, cells := 0, slots := 0, locals := 200 }) (va_Pc [.ref (a (3 + i)), .int (zI (d)), .int (zI (w))] (fun U => U.heap.size = sz ∧ Wd D cy a q σ U)) (va_Qi (fun (r : Int32) (_ : Unit) => r = zI (cpF (σ (3 + i)) d w)) (fun _ _ => True) (fun _ => False)) 0 0 (wF a sz) := by
  refine Met.ofW (cc := cX0_capacityAt) (maxL := 7) (ret := (some .int)) (by decide) rfl ?_
  intro p e s m args below meth c s₁ B hml hpc0
  obtain ⟨rfl, hsz, hW0⟩ := hpc0
  have hx := B.exec
  have hb := B.bytes
  have hr := B.returns
  have hts := atoms_spec (ws := wsX0_capacityAt) B.pre
  have hown : s.vm.findClass RX0 = some m.cls := findClass_of_methodNamed B.named
  have hlocks := B.notSynchronized
  subst hsz
  obtain ⟨hP00, hE0⟩ := id hW0
  obtain ⟨hK, hinj, hU0, hN0, hstr, hnest⟩ := id hE0
  have hP : va_P D vwCl (wld cy a q σ ++ []) s.heap := by rw [List.append_nil]; exact hP00
  have hD : va_D (wF a s.heap.size) (wld cy a q σ ++ []) := wD_of hinj
  have hA : ∀ x : Nat, s.heap.size ≤ x → wF a s.heap.size x := fun _ h => Or.inr h
  have hS : va_S (wF a s.heap.size) s.heap s.heap [] := va_S.rf
  have hk0 : ∀ x : Nat, x < s.heap.size → s.heap[x]? = s.heap[x]? := fun _ _ => rfl
  have hl := lv_entry ([.ref (a (3 + i)), .int (zI (d)), .int (zI (w))]) (n := 7) (Nat.le_of_ble_eq_true rfl)
  rw [lg_entry_eq]
  generalize (lg_sl ([.ref (a (3 + i)), .int (zI (d)), .int (zI (w))]) ++ List.replicate (7 - (lg_sl ([.ref (a (3 + i)), .int (zI (d)), .int (zI (w))])).length) Slot.unset).toArray = ls at hl ⊢
  have hl : lv_has ls 7 [(0, .ref (a (3 + i))), (1, .int (zI (d))), (2, .int (zI (w)))] := hl
  have k22 := hts (.fieldLink RX0 22 "Slewfree$Crane" "falls" "I") (by decide +kernel)
  have inX0 : ∀ w ∈ u_ws RX0 TX0 12, w ∈ wsX0_capacityAt := by decide +kernel
  have hb9 := cpL_b hT d hd0.1
  have ht9 := tlF_b hT (d / 10) (by omega)
  unfold cpL at hb9
  refine lv_iload_n hx hb dX0_capacityAt_0 rfl (lv_at hl 1 rfl) ?_
  refine lv_bipush (v := zI 10) hx hb dX0_capacityAt_1 (by decide +kernel) ?_
  refine z_idiv hx hb dX0_capacityAt_3 (by omega) (by omega) ?_
  refine lv_istore_n (lv' := [(3, .int (zI (d / 10))), (0, .ref (a (3 + i))), (1, .int (zI (d))), (2, .int (zI (w)))]) hx hb dX0_capacityAt_4 rfl hl (by decide) rfl (fun ls hl => ?_)
  refine lv_iload_n hx hb dX0_capacityAt_5 rfl (lv_at hl 2 rfl) ?_
  refine lv_bipush (v := zI 10) hx hb dX0_capacityAt_6 (by decide +kernel) ?_
  refine z_irem hx hb dX0_capacityAt_8 (by omega) (by omega) ?_
  refine lv_istore (lv' := [(4, .int (zI (d % 10))), (3, .int (zI (d / 10))), (0, .ref (a (3 + i))), (1, .int (zI (d))), (2, .int (zI (w)))]) hx hb dX0_capacityAt_9 hl (by decide) rfl (fun ls hl => ?_)
  refine lv_aload_n hx hb dX0_capacityAt_11 rfl (lv_at hl 2 rfl) ?_
  refine lv_iload_n hx hb dX0_capacityAt_12 rfl (lv_at hl 1 rfl) ?_
  refine va_calli (va_runV (As := [.int (zI (d / 10))]) (rest := []) ⟨hx, hb, hml, hown, hts⟩ (c_X0_tableLoad l D cy a q σ s.heap.size i (by first | assumption | omega) (d / 10) (by omega)) (cwV 1 hts gX0_capacityAt_X0_tableLoad rfl rfl rfl (by decide +kernel) ⟨Nat.le_of_ble_eq_true rfl, Nat.le_of_ble_eq_true rfl⟩) ⟨Wd_blind, va_recv hK hP (ci := 2) (q0 := (3 + i)) rfl (wg_C (i := i) (by first | assumption | omega)), fun U hU hW => ⟨rfl, by rw [hU], Wd_mk (wP_left hP) hE0 hS hU hW⟩⟩ rfl rfl hl.1 rfl (lv_room (Nat.le_of_ble_eq_true rfl)) dX0_capacityAt_13 ⟨(show 0 + 0 ≤ 0 by omega), (show 0 + 0 ≤ 0 by omega)⟩) hS (fun _ _ h => h.elim) (fun _ h => wF_mono hS.1 _ h) (fun rv13 u9 t9 H locs ht hvm hw hB hz hk hS1 => ?_)
  have hP := hP.kept (fun k x hk9 => hk x.1 ((hP k x hk9).lt) (fun h => h))
  have hk0 : ∀ x : Nat, x < s.heap.size → H[x]? = s.heap[x]? := fun x h9 => (hk x (Nat.lt_of_lt_of_le h9 hS.1) (fun h => h)).trans (hk0 x h9)
  have hS := hS1
  obtain rfl := hw
  refine lv_istore (lv' := [(5, .int (zI (tlF (σ (3 + i)) (d / 10)))), (4, .int (zI (d % 10))), (3, .int (zI (d / 10))), (0, .ref (a (3 + i))), (1, .int (zI (d))), (2, .int (zI (w)))]) hx hb dX0_capacityAt_16 hl (by decide) rfl (fun ls hl => ?_)
  refine lv_iload hx hb dX0_capacityAt_18 (lv_at hl 0 rfl) ?_
  refine lv_iload hx hb dX0_capacityAt_20 (lv_at hl 0 rfl) ?_
  refine lv_aload_n hx hb dX0_capacityAt_22 rfl (lv_at hl 3 rfl) ?_
  refine lv_iload_n hx hb dX0_capacityAt_23 rfl (lv_at hl 2 rfl) ?_
  refine lv_iconst (v := zI 1) hx hb dX0_capacityAt_24 rfl ?_
  refine z_iadd hx hb dX0_capacityAt_25 ?_
  refine va_calli (va_runV (As := [.int (zI ((d / 10) + 1))]) (rest := [.int (zI (tlF (σ (3 + i)) (d / 10))), .int (zI (tlF (σ (3 + i)) (d / 10)))]) ⟨hx, hb, hml, hown, hts⟩ (c_X0_tableLoad l D cy a q σ H.size i (by first | assumption | omega) ((d / 10) + 1) (by omega)) (cwV 1 hts gX0_capacityAt_X0_tableLoad rfl rfl rfl (by decide +kernel) ⟨Nat.le_of_ble_eq_true rfl, Nat.le_of_ble_eq_true rfl⟩) ⟨Wd_blind, va_recv hK hP (ci := 2) (q0 := (3 + i)) rfl (wg_C (i := i) (by first | assumption | omega)), fun U hU hW => ⟨rfl, by rw [hU], Wd_mk (wP_left hP) hE0 hS hU hW⟩⟩ rfl rfl hl.1 rfl (lv_room (Nat.le_of_ble_eq_true rfl)) dX0_capacityAt_26 ⟨(show 0 + 0 + 0 ≤ 0 by omega), (show 0 + 0 + 0 ≤ 0 by omega)⟩) hS (fun _ _ h => h.elim) (fun _ h => wF_mono hS.1 _ h) (fun rv26 u9 t9 H locs ht hvm hw hB hz hk hS1 => ?_)
  have hP := hP.kept (fun k x hk9 => hk x.1 ((hP k x hk9).lt) (fun h => h))
  have hk0 : ∀ x : Nat, x < s.heap.size → H[x]? = s.heap[x]? := fun x h9 => (hk x (Nat.lt_of_lt_of_le h9 hS.1) (fun h => h)).trans (hk0 x h9)
  have hS := hS1
  obtain rfl := hw
  refine z_isub hx hb dX0_capacityAt_29 ?_
  refine lv_iload hx hb dX0_capacityAt_30 (lv_at hl 1 rfl) ?_
  refine z_imul hx hb dX0_capacityAt_32 ?_
  refine va_calli (va_runSN (As := [.int (zI (((tlF (σ (3 + i)) (d / 10)) - (tlF (σ (3 + i)) ((d / 10) + 1))) * (d % 10)))]) (rest := [.int (zI (tlF (σ (3 + i)) (d / 10)))]) ⟨hx, hb, hml, hown, hts⟩ (c_X7_tenthRoundedUp l (((tlF (σ (3 + i)) (d / 10)) - (tlF (σ (3 + i)) ((d / 10) + 1))) * (d % 10)) (by omega) (by first | assumption | omega)) ⟨va_cnB 1 hts gX0_capacityAt_X7_tenthRoundedUp_n19 rfl rfl rfl (hnest.1) (hts (.initialized RX7) (by decide +kernel)) (by decide +kernel) ⟨Nat.le_of_ble_eq_true rfl, Nat.le_of_ble_eq_true rfl⟩, hts (.static yX7_tenthRoundedUp) (by decide +kernel), trivial⟩ ⟨fun _ _ _ _ h => h, fun _ _ _ => ⟨rfl, trivial⟩⟩ rfl rfl hl.1 rfl (lv_room (Nat.le_of_ble_eq_true rfl)) dX0_capacityAt_33 ⟨(show 0 + 0 + 0 + 0 ≤ 0 by omega), (show 0 + 0 + 0 + 0 ≤ 0 by omega)⟩) hS (fun _ _ h => h.elim) (fun _ h => h.elim) (fun rv33 u9 t9 H locs ht hvm hw hB hz hk hS1 => ?_)
  have hP := hP.kept (fun k x hk9 => hk x.1 ((hP k x hk9).lt) (fun h => h))
  have hk0 : ∀ x : Nat, x < s.heap.size → H[x]? = s.heap[x]? := fun x h9 => (hk x (Nat.lt_of_lt_of_le h9 hS.1) (fun h => h)).trans (hk0 x h9)
  have hS := hS1
  obtain rfl := hw
  refine z_isub hx hb dX0_capacityAt_36 ?_
  refine lv_istore (lv' := [(6, .int (zI ((tlF (σ (3 + i)) (d / 10)) - (((((tlF (σ (3 + i)) (d / 10)) - (tlF (σ (3 + i)) ((d / 10) + 1))) * (d % 10)) + 9) / 10)))), (5, .int (zI (tlF (σ (3 + i)) (d / 10)))), (4, .int (zI (d % 10))), (3, .int (zI (d / 10))), (0, .ref (a (3 + i))), (1, .int (zI (d))), (2, .int (zI (w)))]) hx hb dX0_capacityAt_37 hl (by decide) rfl (fun ls hl => ?_)
  refine lv_aload_n hx hb dX0_capacityAt_39 rfl (lv_at hl 4 rfl) ?_
  refine va_get (D := D) (ci := 2) (v := .int (zI (σ (3 + i) 2))) (C := RX0) (T := TX0) (N := 12) hx hb hts inX0 hown hK hP (3 + i) (wg_C (i := i) (by first | assumption | omega)) rfl 2 (by decide) k22 (fun _ h9 => h9) rfl dX0_capacityAt_40 ?_
  refine lv_iconst (v := zI 4) hx hb dX0_capacityAt_43 rfl ?_
  refine z_icmp_ne (tgt := 55) hx hb dX0_capacityAt_44 (by decide) (by omega) (by omega) (fun cd44 => ?_) (fun cd44 => ?_)
  · skip
    refine lv_iload_n hx hb dX0_capacityAt_55 rfl (lv_at hl 6 rfl) ?_
    refine lv_bipush (v := zI 8) hx hb dX0_capacityAt_56 (by decide +kernel) ?_
    refine z_icmp_le (tgt := 70) hx hb dX0_capacityAt_58 (by decide) (by omega) (by omega) (fun cd58 => ?_) (fun cd58 => ?_)
    · skip
      refine lv_iload hx hb dX0_capacityAt_70 (lv_at hl 0 rfl) ?_
      refine lv_iconst (v := zI 0) hx hb dX0_capacityAt_72 rfl ?_
      refine va_mmax hx hb (by rw [hml]; exact hl.1.symm) hown (hts (.methodLink RX0 25 Lib.Math.max.name) (by decide +kernel)) (hts (.static Lib.Math.max.name) (by decide +kernel)) (hts (.initialized "java/lang/Math") (by decide +kernel)) (hts (.code Lib.Math.max.name Lib.Math.max.code 2 (some .int)) (by decide +kernel)) (Nat.le_of_ble_eq_true rfl) (Nat.le_of_ble_eq_true rfl) (show 0 + 0 + 0 + 0 ≤ 0 by omega) (show 0 + 0 + 0 + 0 ≤ 0 by omega) dX0_capacityAt_73 ?_
      rw [zmax (x := (tlF (σ (3 + i)) (d / 10)) - (((((tlF (σ (3 + i)) (d / 10)) - (tlF (σ (3 + i)) ((d / 10) + 1))) * (d % 10)) + 9) / 10)) (y := 0) (by omega) (by omega)]
      refine W.widen (k := 0) (n := 0) (by omega) (by omega) ?_
      exact W.iret (v := zI (mxI ((tlF (σ (3 + i)) (d / 10)) - (((((tlF (σ (3 + i)) (d / 10)) - (tlF (σ (3 + i)) ((d / 10) + 1))) * (d % 10)) + 9) / 10)) 0)) hx hb hr (fun t9 ht hW => ⟨⟨_, (), rfl, (by unfold cpF cpM cpL; congr 2; (repeat' split) <;> omega), trivial⟩, vF_R ht hS.1 hk0⟩) hS.2.2 dX0_capacityAt_76
    · skip
      refine lv_iload hx hb dX0_capacityAt_61 (lv_at hl 0 rfl) ?_
      refine lv_iload_n hx hb dX0_capacityAt_63 rfl (lv_at hl 6 rfl) ?_
      refine lv_bipush (v := zI 8) hx hb dX0_capacityAt_64 (by decide +kernel) ?_
      refine z_isub hx hb dX0_capacityAt_66 ?_
      refine z_isub hx hb dX0_capacityAt_67 ?_
      refine lv_istore (lv' := [(6, .int (zI (((tlF (σ (3 + i)) (d / 10)) - (((((tlF (σ (3 + i)) (d / 10)) - (tlF (σ (3 + i)) ((d / 10) + 1))) * (d % 10)) + 9) / 10)) - (w - 8)))), (5, .int (zI (tlF (σ (3 + i)) (d / 10)))), (4, .int (zI (d % 10))), (3, .int (zI (d / 10))), (0, .ref (a (3 + i))), (1, .int (zI (d))), (2, .int (zI (w)))]) hx hb dX0_capacityAt_68 hl (by decide) rfl (fun ls hl => ?_)
      refine lv_iload hx hb dX0_capacityAt_70 (lv_at hl 0 rfl) ?_
      refine lv_iconst (v := zI 0) hx hb dX0_capacityAt_72 rfl ?_
      refine va_mmax hx hb (by rw [hml]; exact hl.1.symm) hown (hts (.methodLink RX0 25 Lib.Math.max.name) (by decide +kernel)) (hts (.static Lib.Math.max.name) (by decide +kernel)) (hts (.initialized "java/lang/Math") (by decide +kernel)) (hts (.code Lib.Math.max.name Lib.Math.max.code 2 (some .int)) (by decide +kernel)) (Nat.le_of_ble_eq_true rfl) (Nat.le_of_ble_eq_true rfl) (show 0 + 0 + 0 + 0 ≤ 0 by omega) (show 0 + 0 + 0 + 0 ≤ 0 by omega) dX0_capacityAt_73 ?_
      rw [zmax (x := ((tlF (σ (3 + i)) (d / 10)) - (((((tlF (σ (3 + i)) (d / 10)) - (tlF (σ (3 + i)) ((d / 10) + 1))) * (d % 10)) + 9) / 10)) - (w - 8)) (y := 0) (by omega) (by omega)]
      refine W.widen (k := 0) (n := 0) (by omega) (by omega) ?_
      exact W.iret (v := zI (mxI (((tlF (σ (3 + i)) (d / 10)) - (((((tlF (σ (3 + i)) (d / 10)) - (tlF (σ (3 + i)) ((d / 10) + 1))) * (d % 10)) + 9) / 10)) - (w - 8)) 0)) hx hb hr (fun t9 ht hW => ⟨⟨_, (), rfl, (by unfold cpF cpM cpL; congr 2; (repeat' split) <;> omega), trivial⟩, vF_R ht hS.1 hk0⟩) hS.2.2 dX0_capacityAt_76
  · skip
    refine lv_iconst (v := zI 2) hx hb dX0_capacityAt_47 rfl ?_
    refine lv_iload hx hb dX0_capacityAt_48 (lv_at hl 0 rfl) ?_
    refine z_imul hx hb dX0_capacityAt_50 ?_
    refine lv_iconst (v := zI 5) hx hb dX0_capacityAt_51 rfl ?_
    refine z_isub hx hb dX0_capacityAt_52 ?_
    refine lv_istore (lv' := [(6, .int (zI ((2 * ((tlF (σ (3 + i)) (d / 10)) - (((((tlF (σ (3 + i)) (d / 10)) - (tlF (σ (3 + i)) ((d / 10) + 1))) * (d % 10)) + 9) / 10))) - 5))), (5, .int (zI (tlF (σ (3 + i)) (d / 10)))), (4, .int (zI (d % 10))), (3, .int (zI (d / 10))), (0, .ref (a (3 + i))), (1, .int (zI (d))), (2, .int (zI (w)))]) hx hb dX0_capacityAt_53 hl (by decide) rfl (fun ls hl => ?_)
    refine lv_iload_n hx hb dX0_capacityAt_55 rfl (lv_at hl 6 rfl) ?_
    refine lv_bipush (v := zI 8) hx hb dX0_capacityAt_56 (by decide +kernel) ?_
    refine z_icmp_le (tgt := 70) hx hb dX0_capacityAt_58 (by decide) (by omega) (by omega) (fun cd58 => ?_) (fun cd58 => ?_)
    · skip
      refine lv_iload hx hb dX0_capacityAt_70 (lv_at hl 0 rfl) ?_
      refine lv_iconst (v := zI 0) hx hb dX0_capacityAt_72 rfl ?_
      refine va_mmax hx hb (by rw [hml]; exact hl.1.symm) hown (hts (.methodLink RX0 25 Lib.Math.max.name) (by decide +kernel)) (hts (.static Lib.Math.max.name) (by decide +kernel)) (hts (.initialized "java/lang/Math") (by decide +kernel)) (hts (.code Lib.Math.max.name Lib.Math.max.code 2 (some .int)) (by decide +kernel)) (Nat.le_of_ble_eq_true rfl) (Nat.le_of_ble_eq_true rfl) (show 0 + 0 + 0 + 0 ≤ 0 by omega) (show 0 + 0 + 0 + 0 ≤ 0 by omega) dX0_capacityAt_73 ?_
      rw [zmax (x := (2 * ((tlF (σ (3 + i)) (d / 10)) - (((((tlF (σ (3 + i)) (d / 10)) - (tlF (σ (3 + i)) ((d / 10) + 1))) * (d % 10)) + 9) / 10))) - 5) (y := 0) (by omega) (by omega)]
      refine W.widen (k := 0) (n := 0) (by omega) (by omega) ?_
      exact W.iret (v := zI (mxI ((2 * ((tlF (σ (3 + i)) (d / 10)) - (((((tlF (σ (3 + i)) (d / 10)) - (tlF (σ (3 + i)) ((d / 10) + 1))) * (d % 10)) + 9) / 10))) - 5) 0)) hx hb hr (fun t9 ht hW => ⟨⟨_, (), rfl, (by unfold cpF cpM cpL; congr 2; (repeat' split) <;> omega), trivial⟩, vF_R ht hS.1 hk0⟩) hS.2.2 dX0_capacityAt_76
    · skip
      refine lv_iload hx hb dX0_capacityAt_61 (lv_at hl 0 rfl) ?_
      refine lv_iload_n hx hb dX0_capacityAt_63 rfl (lv_at hl 6 rfl) ?_
      refine lv_bipush (v := zI 8) hx hb dX0_capacityAt_64 (by decide +kernel) ?_
      refine z_isub hx hb dX0_capacityAt_66 ?_
      refine z_isub hx hb dX0_capacityAt_67 ?_
      refine lv_istore (lv' := [(6, .int (zI (((2 * ((tlF (σ (3 + i)) (d / 10)) - (((((tlF (σ (3 + i)) (d / 10)) - (tlF (σ (3 + i)) ((d / 10) + 1))) * (d % 10)) + 9) / 10))) - 5) - (w - 8)))), (5, .int (zI (tlF (σ (3 + i)) (d / 10)))), (4, .int (zI (d % 10))), (3, .int (zI (d / 10))), (0, .ref (a (3 + i))), (1, .int (zI (d))), (2, .int (zI (w)))]) hx hb dX0_capacityAt_68 hl (by decide) rfl (fun ls hl => ?_)
      refine lv_iload hx hb dX0_capacityAt_70 (lv_at hl 0 rfl) ?_
      refine lv_iconst (v := zI 0) hx hb dX0_capacityAt_72 rfl ?_
      refine va_mmax hx hb (by rw [hml]; exact hl.1.symm) hown (hts (.methodLink RX0 25 Lib.Math.max.name) (by decide +kernel)) (hts (.static Lib.Math.max.name) (by decide +kernel)) (hts (.initialized "java/lang/Math") (by decide +kernel)) (hts (.code Lib.Math.max.name Lib.Math.max.code 2 (some .int)) (by decide +kernel)) (Nat.le_of_ble_eq_true rfl) (Nat.le_of_ble_eq_true rfl) (show 0 + 0 + 0 + 0 ≤ 0 by omega) (show 0 + 0 + 0 + 0 ≤ 0 by omega) dX0_capacityAt_73 ?_
      rw [zmax (x := ((2 * ((tlF (σ (3 + i)) (d / 10)) - (((((tlF (σ (3 + i)) (d / 10)) - (tlF (σ (3 + i)) ((d / 10) + 1))) * (d % 10)) + 9) / 10))) - 5) - (w - 8)) (y := 0) (by omega) (by omega)]
      refine W.widen (k := 0) (n := 0) (by omega) (by omega) ?_
      exact W.iret (v := zI (mxI (((2 * ((tlF (σ (3 + i)) (d / 10)) - (((((tlF (σ (3 + i)) (d / 10)) - (tlF (σ (3 + i)) ((d / 10) + 1))) * (d % 10)) + 9) / 10))) - 5) - (w - 8)) 0)) hx hb hr (fun t9 ht hW => ⟨⟨_, (), rfl, (by unfold cpF cpM cpL; congr 2; (repeat' split) <;> omega), trivial⟩, vF_R ht hS.1 hk0⟩) hS.2.2 dX0_capacityAt_76

set_option maxHeartbeats 4000000 in
set_option maxRecDepth 100000 in
/-- X0_isWorn -/
theorem c_X0_isWorn (l : Launch) (D : va_G) (cy : Nat → ClassId) (a q : Nat → Nat) (σ : Nat → Nat → Int) (sz : Nat) (i : Nat) (hi : i < 3) (h9 : rg (σ (3 + i) 10)) : Met l yX0_isWorn wsX0_isWorn ({ frames := 7, cells := 0, slots := 0, locals := 100 }) (va_Pc [.ref (a (3 + i))] (fun U => U.heap.size = sz ∧ Wd D cy a q σ U)) (va_Qi (fun (r : Int32) (_ : Unit) => (r = zI 1 ∧ (80 ≤ σ (3 + i) 10)) ∨ (r = zI 0 ∧ ¬ (80 ≤ σ (3 + i) 10))) (fun _ _ => True) (fun _ => False)) 0 0 (wF a sz) := by
  refine Met.ofW (cc := cX0_isWorn) (maxL := 1) (ret := (some .boolean)) (by decide) rfl ?_
  intro p e s m args below meth c s₁ B hml hpc0
  obtain ⟨rfl, hsz, hW0⟩ := hpc0
  have hx := B.exec
  have hb := B.bytes
  have hr := B.returns
  have hts := atoms_spec (ws := wsX0_isWorn) B.pre
  have hown : s.vm.findClass RX0 = some m.cls := findClass_of_methodNamed B.named
  have hlocks := B.notSynchronized
  subst hsz
  obtain ⟨hP00, hE0⟩ := id hW0
  obtain ⟨hK, hinj, hU0, hN0, hstr, hnest⟩ := id hE0
  have hP : va_P D vwCl (wld cy a q σ ++ []) s.heap := by rw [List.append_nil]; exact hP00
  have hD : va_D (wF a s.heap.size) (wld cy a q σ ++ []) := wD_of hinj
  have hA : ∀ x : Nat, s.heap.size ≤ x → wF a s.heap.size x := fun _ h => Or.inr h
  have hS : va_S (wF a s.heap.size) s.heap s.heap [] := va_S.rf
  have hk0 : ∀ x : Nat, x < s.heap.size → s.heap[x]? = s.heap[x]? := fun _ _ => rfl
  have hl := lv_entry ([.ref (a (3 + i))]) (n := 1) (Nat.le_of_ble_eq_true rfl)
  rw [lg_entry_eq]
  generalize (lg_sl ([.ref (a (3 + i))]) ++ List.replicate (1 - (lg_sl ([.ref (a (3 + i))])).length) Slot.unset).toArray = ls at hl ⊢
  have hl : lv_has ls 1 [(0, .ref (a (3 + i)))] := hl
  have k43 := hts (.fieldLink RX0 43 "Slewfree$Crane" "wear" "I") (by decide +kernel)
  have inX0 : ∀ w ∈ u_ws RX0 TX0 12, w ∈ wsX0_isWorn := by decide +kernel
  refine lv_aload_n hx hb dX0_isWorn_0 rfl (lv_at hl 0 rfl) ?_
  refine va_get (D := D) (ci := 2) (v := .int (zI (σ (3 + i) 10))) (C := RX0) (T := TX0) (N := 12) hx hb hts inX0 hown hK hP (3 + i) (wg_C (i := i) (by first | assumption | omega)) rfl 10 (by decide) k43 (fun _ h9 => h9) rfl dX0_isWorn_1 ?_
  refine lv_bipush (v := zI 80) hx hb dX0_isWorn_4 (by decide +kernel) ?_
  refine z_icmp_lt (tgt := 13) hx hb dX0_isWorn_6 (by decide) (by omega) (by omega) (fun cd6 => ?_) (fun cd6 => ?_)
  · skip
    refine lv_iconst (v := zI 0) hx hb dX0_isWorn_13 rfl ?_
    exact W.zret (v := zI 0) (ty := .boolean) hx hb hr (by decide +kernel) (fun t9 ht hW => ⟨⟨_, (), rfl, Or.inr ⟨rfl, (by omega)⟩, trivial⟩, vF_R ht hS.1 hk0⟩) hS.2.2 dX0_isWorn_14
  · skip
    refine lv_iconst (v := zI 1) hx hb dX0_isWorn_9 rfl ?_
    refine lv_goto (tgt := 14) hx hb dX0_isWorn_10 (by decide) ?_
    exact W.zret (v := zI 1) (ty := .boolean) hx hb hr (by decide +kernel) (fun t9 ht hW => ⟨⟨_, (), rfl, Or.inl ⟨rfl, (by omega)⟩, trivial⟩, vF_R ht hS.1 hk0⟩) hS.2.2 dX0_isWorn_14

set_option maxHeartbeats 4000000 in
set_option maxRecDepth 100000 in
/-- X5_isStorm -/
theorem c_X5_isStorm (l : Launch) (D : va_G) (cy : Nat → ClassId) (a q : Nat → Nat) (σ : Nat → Nat → Int) (sz : Nat) (h9 : rg (σ 1 5)) : Met l yX5_isStorm wsX5_isStorm ({ frames := 7, cells := 0, slots := 0, locals := 100 }) (va_Pc [.ref (a 1)] (fun U => U.heap.size = sz ∧ Wd D cy a q σ U)) (va_Qi (fun (r : Int32) (_ : Unit) => (r = zI 1 ∧ (12 < σ 1 5)) ∨ (r = zI 0 ∧ ¬ (12 < σ 1 5))) (fun _ _ => True) (fun _ => False)) 0 0 (wF a sz) := by
  refine Met.ofW (cc := cX5_isStorm) (maxL := 1) (ret := (some .boolean)) (by decide) rfl ?_
  intro p e s m args below meth c s₁ B hml hpc0
  obtain ⟨rfl, hsz, hW0⟩ := hpc0
  have hx := B.exec
  have hb := B.bytes
  have hr := B.returns
  have hts := atoms_spec (ws := wsX5_isStorm) B.pre
  have hown : s.vm.findClass RX5 = some m.cls := findClass_of_methodNamed B.named
  have hlocks := B.notSynchronized
  subst hsz
  obtain ⟨hP00, hE0⟩ := id hW0
  obtain ⟨hK, hinj, hU0, hN0, hstr, hnest⟩ := id hE0
  have hP : va_P D vwCl (wld cy a q σ ++ []) s.heap := by rw [List.append_nil]; exact hP00
  have hD : va_D (wF a s.heap.size) (wld cy a q σ ++ []) := wD_of hinj
  have hA : ∀ x : Nat, s.heap.size ≤ x → wF a s.heap.size x := fun _ h => Or.inr h
  have hS : va_S (wF a s.heap.size) s.heap s.heap [] := va_S.rf
  have hk0 : ∀ x : Nat, x < s.heap.size → s.heap[x]? = s.heap[x]? := fun _ _ => rfl
  have hl := lv_entry ([.ref (a 1)]) (n := 1) (Nat.le_of_ble_eq_true rfl)
  rw [lg_entry_eq]
  generalize (lg_sl ([.ref (a 1)]) ++ List.replicate (1 - (lg_sl ([.ref (a 1)])).length) Slot.unset).toArray = ls at hl ⊢
  have hl : lv_has ls 1 [(0, .ref (a 1))] := hl
  have k24 := hts (.fieldLink RX5 24 "Slewfree$Weather" "wind" "I") (by decide +kernel)
  have inX5 : ∀ w ∈ u_ws RX5 TX5 7, w ∈ wsX5_isStorm := by decide +kernel
  refine lv_aload_n hx hb dX5_isStorm_0 rfl (lv_at hl 0 rfl) ?_
  refine va_get (D := D) (ci := 7) (v := .int (zI (σ 1 5))) (C := RX5) (T := TX5) (N := 7) hx hb hts inX5 hown hK hP 1 wg_W rfl 5 (by decide) k24 (fun _ h9 => h9) rfl dX5_isStorm_1 ?_
  refine lv_bipush (v := zI 12) hx hb dX5_isStorm_4 (by decide +kernel) ?_
  refine z_icmp_le (tgt := 13) hx hb dX5_isStorm_6 (by decide) (by omega) (by omega) (fun cd6 => ?_) (fun cd6 => ?_)
  · skip
    refine lv_iconst (v := zI 0) hx hb dX5_isStorm_13 rfl ?_
    exact W.zret (v := zI 0) (ty := .boolean) hx hb hr (by decide +kernel) (fun t9 ht hW => ⟨⟨_, (), rfl, Or.inr ⟨rfl, (by omega)⟩, trivial⟩, vF_R ht hS.1 hk0⟩) hS.2.2 dX5_isStorm_14
  · skip
    refine lv_iconst (v := zI 1) hx hb dX5_isStorm_9 rfl ?_
    refine lv_goto (tgt := 14) hx hb dX5_isStorm_10 (by decide) ?_
    exact W.zret (v := zI 1) (ty := .boolean) hx hb hr (by decide +kernel) (fun t9 ht hW => ⟨⟨_, (), rfl, Or.inl ⟨rfl, (by omega)⟩, trivial⟩, vF_R ht hS.1 hk0⟩) hS.2.2 dX5_isStorm_14

set_option maxHeartbeats 4000000 in
set_option maxRecDepth 100000 in
/-- X5_hour -/
theorem c_X5_hour (l : Launch) (D : va_G) (cy : Nat → ClassId) (a q : Nat → Nat) (σ : Nat → Nat → Int) (sz : Nat) (h9 : 0 ≤ σ 1 0 ∧ σ 1 0 ≤ 9999) : Met l yX5_hour wsX5_hour ({ frames := 7, cells := 0, slots := 0, locals := 100 }) (va_Pc [.ref (a 1)] (fun U => U.heap.size = sz ∧ Wd D cy a q σ U)) (va_Qi (fun (r : Int32) (_ : Unit) => r = zI (hrF (σ 1))) (fun _ _ => True) (fun _ => False)) 0 0 (wF a sz) := by
  refine Met.ofW (cc := cX5_hour) (maxL := 1) (ret := (some .int)) (by decide) rfl ?_
  intro p e s m args below meth c s₁ B hml hpc0
  obtain ⟨rfl, hsz, hW0⟩ := hpc0
  have hx := B.exec
  have hb := B.bytes
  have hr := B.returns
  have hts := atoms_spec (ws := wsX5_hour) B.pre
  have hown : s.vm.findClass RX5 = some m.cls := findClass_of_methodNamed B.named
  have hlocks := B.notSynchronized
  subst hsz
  obtain ⟨hP00, hE0⟩ := id hW0
  obtain ⟨hK, hinj, hU0, hN0, hstr, hnest⟩ := id hE0
  have hP : va_P D vwCl (wld cy a q σ ++ []) s.heap := by rw [List.append_nil]; exact hP00
  have hD : va_D (wF a s.heap.size) (wld cy a q σ ++ []) := wD_of hinj
  have hA : ∀ x : Nat, s.heap.size ≤ x → wF a s.heap.size x := fun _ h => Or.inr h
  have hS : va_S (wF a s.heap.size) s.heap s.heap [] := va_S.rf
  have hk0 : ∀ x : Nat, x < s.heap.size → s.heap[x]? = s.heap[x]? := fun _ _ => rfl
  have hl := lv_entry ([.ref (a 1)]) (n := 1) (Nat.le_of_ble_eq_true rfl)
  rw [lg_entry_eq]
  generalize (lg_sl ([.ref (a 1)]) ++ List.replicate (1 - (lg_sl ([.ref (a 1)])).length) Slot.unset).toArray = ls at hl ⊢
  have hl : lv_has ls 1 [(0, .ref (a 1))] := hl
  have k15 := hts (.fieldLink RX5 15 "Slewfree$Weather" "minute" "I") (by decide +kernel)
  have inX5 : ∀ w ∈ u_ws RX5 TX5 7, w ∈ wsX5_hour := by decide +kernel
  refine lv_aload_n hx hb dX5_hour_0 rfl (lv_at hl 0 rfl) ?_
  refine va_get (D := D) (ci := 7) (v := .int (zI (σ 1 0))) (C := RX5) (T := TX5) (N := 7) hx hb hts inX5 hown hK hP 1 wg_W rfl 0 (by decide) k15 (fun _ h9 => h9) rfl dX5_hour_1 ?_
  refine lv_bipush (v := zI 60) hx hb dX5_hour_4 (by decide +kernel) ?_
  refine z_idiv hx hb dX5_hour_6 (by omega) (by omega) ?_
  refine lv_bipush (v := zI 24) hx hb dX5_hour_7 (by decide +kernel) ?_
  refine z_irem hx hb dX5_hour_9 (by omega) (by omega) ?_
  exact W.iret (v := zI (((σ 1 0) / 60) % 24)) hx hb hr (fun t9 ht hW => ⟨⟨_, (), rfl, rfl, trivial⟩, vF_R ht hS.1 hk0⟩) hS.2.2 dX5_hour_10

set_option maxHeartbeats 4000000 in
set_option maxRecDepth 100000 in
/-- X3_sealBehind -/
theorem c_X3_sealBehind (l : Launch) (D : va_G) (cy : Nat → ClassId) (a q : Nat → Nat) (σ : Nat → Nat → Int) (sz : Nat) (i : Nat) (hi : i < 40) (ah : Int) (hah : rg ah) (h9 : 0 ≤ σ (22 + i) 0 ∧ σ (22 + i) 0 ≤ 4 ∧ 0 ≤ σ (22 + i) 1 ∧ σ (22 + i) 1 ≤ 2 ∧ 0 ≤ σ (22 + i) 2 ∧ σ (22 + i) 2 ≤ 41 ∧ 0 ≤ σ (22 + i) 3 ∧ σ (22 + i) 3 ≤ 199 ∧ 0 ≤ σ (22 + i) 4 ∧ σ (22 + i) 4 ≤ 5) (ha9 : 0 ≤ ah ∧ ah ≤ 9972) : Met l yX3_sealBehind wsX3_sealBehind ({ frames := 7, cells := 0, slots := 0, locals := 100 }) (va_Pc [.ref (a (22 + i)), .int (zI (ah))] (fun U => U.heap.size = sz ∧ Wd D cy a q σ U)) (va_Qi (fun (r : Int32) (_ : Unit) => r = zI (sealB (σ (22 + i)) ah)) (fun _ _ => True) (fun _ => False)) 0 0 (wF a sz) := by
  refine Met.ofW (cc := cX3_sealBehind) (maxL := 2) (ret := (some .int)) (by decide) rfl ?_
  intro p e s m args below meth c s₁ B hml hpc0
  obtain ⟨rfl, hsz, hW0⟩ := hpc0
  have hx := B.exec
  have hb := B.bytes
  have hr := B.returns
  have hts := atoms_spec (ws := wsX3_sealBehind) B.pre
  have hown : s.vm.findClass RX3 = some m.cls := findClass_of_methodNamed B.named
  have hlocks := B.notSynchronized
  subst hsz
  obtain ⟨hP00, hE0⟩ := id hW0
  obtain ⟨hK, hinj, hU0, hN0, hstr, hnest⟩ := id hE0
  have hP : va_P D vwCl (wld cy a q σ ++ []) s.heap := by rw [List.append_nil]; exact hP00
  have hD : va_D (wF a s.heap.size) (wld cy a q σ ++ []) := wD_of hinj
  have hA : ∀ x : Nat, s.heap.size ≤ x → wF a s.heap.size x := fun _ h => Or.inr h
  have hS : va_S (wF a s.heap.size) s.heap s.heap [] := va_S.rf
  have hk0 : ∀ x : Nat, x < s.heap.size → s.heap[x]? = s.heap[x]? := fun _ _ => rfl
  have hl := lv_entry ([.ref (a (22 + i)), .int (zI (ah))]) (n := 2) (Nat.le_of_ble_eq_true rfl)
  rw [lg_entry_eq]
  generalize (lg_sl ([.ref (a (22 + i)), .int (zI (ah))]) ++ List.replicate (2 - (lg_sl ([.ref (a (22 + i)), .int (zI (ah))])).length) Slot.unset).toArray = ls at hl ⊢
  have hl : lv_has ls 2 [(0, .ref (a (22 + i))), (1, .int (zI (ah)))] := hl
  have k9 := hts (.fieldLink RX3 9 "Slewfree$Page" "kind" "I") (by decide +kernel)
  have k15 := hts (.fieldLink RX3 15 "Slewfree$Page" "crane" "I") (by decide +kernel)
  have k18 := hts (.fieldLink RX3 18 "Slewfree$Page" "wind" "I") (by decide +kernel)
  have k21 := hts (.fieldLink RX3 21 "Slewfree$Page" "load" "I") (by decide +kernel)
  have k24 := hts (.fieldLink RX3 24 "Slewfree$Page" "verdict" "I") (by decide +kernel)
  have inX3 : ∀ w ∈ u_ws RX3 TX3 7, w ∈ wsX3_sealBehind := by decide +kernel
  refine lv_bipush (v := zI 31) hx hb dX3_sealBehind_0 (by decide +kernel) ?_
  refine lv_iload_n hx hb dX3_sealBehind_2 rfl (lv_at hl 1 rfl) ?_
  refine z_imul hx hb dX3_sealBehind_3 ?_
  refine lv_bipush (v := zI 7) hx hb dX3_sealBehind_4 (by decide +kernel) ?_
  refine lv_aload_n hx hb dX3_sealBehind_6 rfl (lv_at hl 0 rfl) ?_
  refine va_get (D := D) (ci := 5) (v := .int (zI (σ (22 + i) 0))) (C := RX3) (T := TX3) (N := 7) hx hb hts inX3 hown hK hP (22 + i) (wg_P (i := i) (by first | assumption | omega)) rfl 0 (by decide) k9 (fun _ h9 => h9) rfl dX3_sealBehind_7 ?_
  refine z_imul hx hb dX3_sealBehind_10 ?_
  refine z_iadd hx hb dX3_sealBehind_11 ?_
  refine lv_iconst (v := zI 5) hx hb dX3_sealBehind_12 rfl ?_
  refine lv_aload_n hx hb dX3_sealBehind_13 rfl (lv_at hl 0 rfl) ?_
  refine va_get (D := D) (ci := 5) (v := .int (zI (σ (22 + i) 1))) (C := RX3) (T := TX3) (N := 7) hx hb hts inX3 hown hK hP (22 + i) (wg_P (i := i) (by first | assumption | omega)) rfl 1 (by decide) k15 (fun _ h9 => h9) rfl dX3_sealBehind_14 ?_
  refine z_imul hx hb dX3_sealBehind_17 ?_
  refine z_iadd hx hb dX3_sealBehind_18 ?_
  refine lv_iconst (v := zI 3) hx hb dX3_sealBehind_19 rfl ?_
  refine lv_aload_n hx hb dX3_sealBehind_20 rfl (lv_at hl 0 rfl) ?_
  refine va_get (D := D) (ci := 5) (v := .int (zI (σ (22 + i) 2))) (C := RX3) (T := TX3) (N := 7) hx hb hts inX3 hown hK hP (22 + i) (wg_P (i := i) (by first | assumption | omega)) rfl 2 (by decide) k18 (fun _ h9 => h9) rfl dX3_sealBehind_21 ?_
  refine z_imul hx hb dX3_sealBehind_24 ?_
  refine z_iadd hx hb dX3_sealBehind_25 ?_
  refine lv_aload_n hx hb dX3_sealBehind_26 rfl (lv_at hl 0 rfl) ?_
  refine va_get (D := D) (ci := 5) (v := .int (zI (σ (22 + i) 3))) (C := RX3) (T := TX3) (N := 7) hx hb hts inX3 hown hK hP (22 + i) (wg_P (i := i) (by first | assumption | omega)) rfl 3 (by decide) k21 (fun _ h9 => h9) rfl dX3_sealBehind_27 ?_
  refine z_iadd hx hb dX3_sealBehind_30 ?_
  refine lv_bipush (v := zI 11) hx hb dX3_sealBehind_31 (by decide +kernel) ?_
  refine lv_aload_n hx hb dX3_sealBehind_33 rfl (lv_at hl 0 rfl) ?_
  refine va_get (D := D) (ci := 5) (v := .int (zI (σ (22 + i) 4))) (C := RX3) (T := TX3) (N := 7) hx hb hts inX3 hown hK hP (22 + i) (wg_P (i := i) (by first | assumption | omega)) rfl 4 (by decide) k24 (fun _ h9 => h9) rfl dX3_sealBehind_34 ?_
  refine z_imul hx hb dX3_sealBehind_37 ?_
  refine z_iadd hx hb dX3_sealBehind_38 ?_
  refine lv_sipush (v := zI 9973) hx hb dX3_sealBehind_39 (by decide +kernel) ?_
  refine z_irem hx hb dX3_sealBehind_42 (by omega) (by omega) ?_
  exact W.iret (v := zI (((((((31 * ah) + (7 * (σ (22 + i) 0))) + (5 * (σ (22 + i) 1))) + (3 * (σ (22 + i) 2))) + (σ (22 + i) 3)) + (11 * (σ (22 + i) 4))) % 9973)) hx hb hr (fun t9 ht hW => ⟨⟨_, (), rfl, (by first | rfl | (congr 1; omega)), trivial⟩, vF_R ht hS.1 hk0⟩) hS.2.2 dX3_sealBehind_43

set_option maxHeartbeats 4000000 in
set_option maxRecDepth 100000 in
/-- X3_isOverload -/
theorem c_X3_isOverload (l : Launch) (D : va_G) (cy : Nat → ClassId) (a q : Nat → Nat) (σ : Nat → Nat → Int) (sz : Nat) (i : Nat) (hi : i < 40) (h9 : okP (σ (22 + i))) : Met l yX3_isOverload wsX3_isOverload ({ frames := 7, cells := 0, slots := 0, locals := 100 }) (va_Pc [.ref (a (22 + i))] (fun U => U.heap.size = sz ∧ Wd D cy a q σ U)) (va_Qi (fun (r : Int32) (_ : Unit) => (r = zI 1 ∧ (σ (22 + i) 0 = 0 ∧ σ (22 + i) 4 = 0 ∧ σ (22 + i) 6 < σ (22 + i) 3)) ∨ (r = zI 0 ∧ ¬ (σ (22 + i) 0 = 0 ∧ σ (22 + i) 4 = 0 ∧ σ (22 + i) 6 < σ (22 + i) 3))) (fun _ _ => True) (fun _ => False)) 0 0 (wF a sz) := by
  refine Met.ofW (cc := cX3_isOverload) (maxL := 1) (ret := (some .boolean)) (by decide) rfl ?_
  intro p e s m args below meth c s₁ B hml hpc0
  obtain ⟨rfl, hsz, hW0⟩ := hpc0
  have hx := B.exec
  have hb := B.bytes
  have hr := B.returns
  have hts := atoms_spec (ws := wsX3_isOverload) B.pre
  have hown : s.vm.findClass RX3 = some m.cls := findClass_of_methodNamed B.named
  have hlocks := B.notSynchronized
  subst hsz
  obtain ⟨hP00, hE0⟩ := id hW0
  obtain ⟨hK, hinj, hU0, hN0, hstr, hnest⟩ := id hE0
  have hP : va_P D vwCl (wld cy a q σ ++ []) s.heap := by rw [List.append_nil]; exact hP00
  have hD : va_D (wF a s.heap.size) (wld cy a q σ ++ []) := wD_of hinj
  have hA : ∀ x : Nat, s.heap.size ≤ x → wF a s.heap.size x := fun _ h => Or.inr h
  have hS : va_S (wF a s.heap.size) s.heap s.heap [] := va_S.rf
  have hk0 : ∀ x : Nat, x < s.heap.size → s.heap[x]? = s.heap[x]? := fun _ _ => rfl
  have hl := lv_entry ([.ref (a (22 + i))]) (n := 1) (Nat.le_of_ble_eq_true rfl)
  rw [lg_entry_eq]
  generalize (lg_sl ([.ref (a (22 + i))]) ++ List.replicate (1 - (lg_sl ([.ref (a (22 + i))])).length) Slot.unset).toArray = ls at hl ⊢
  have hl : lv_has ls 1 [(0, .ref (a (22 + i)))] := hl
  have k9 := hts (.fieldLink RX3 9 "Slewfree$Page" "kind" "I") (by decide +kernel)
  have k21 := hts (.fieldLink RX3 21 "Slewfree$Page" "load" "I") (by decide +kernel)
  have k24 := hts (.fieldLink RX3 24 "Slewfree$Page" "verdict" "I") (by decide +kernel)
  have k27 := hts (.fieldLink RX3 27 "Slewfree$Page" "leastCapacity" "I") (by decide +kernel)
  have inX3 : ∀ w ∈ u_ws RX3 TX3 7, w ∈ wsX3_isOverload := by decide +kernel
  unfold okP at h9
  refine lv_aload_n hx hb dX3_isOverload_0 rfl (lv_at hl 0 rfl) ?_
  refine va_get (D := D) (ci := 5) (v := .int (zI (σ (22 + i) 0))) (C := RX3) (T := TX3) (N := 7) hx hb hts inX3 hown hK hP (22 + i) (wg_P (i := i) (by first | assumption | omega)) rfl 0 (by decide) k9 (fun _ h9 => h9) rfl dX3_isOverload_1 ?_
  refine z_if_ne (tgt := 29) hx hb dX3_isOverload_4 (by decide) (by omega) (fun cd4 => ?_) (fun cd4 => ?_)
  · skip
    refine lv_iconst (v := zI 0) hx hb dX3_isOverload_29 rfl ?_
    exact W.zret (v := zI 0) (ty := .boolean) hx hb hr (by decide +kernel) (fun t9 ht hW => ⟨⟨_, (), rfl, Or.inr ⟨rfl, (by omega)⟩, trivial⟩, vF_R ht hS.1 hk0⟩) hS.2.2 dX3_isOverload_30
  · skip
    refine lv_aload_n hx hb dX3_isOverload_7 rfl (lv_at hl 0 rfl) ?_
    refine va_get (D := D) (ci := 5) (v := .int (zI (σ (22 + i) 4))) (C := RX3) (T := TX3) (N := 7) hx hb hts inX3 hown hK hP (22 + i) (wg_P (i := i) (by first | assumption | omega)) rfl 4 (by decide) k24 (fun _ h9 => h9) rfl dX3_isOverload_8 ?_
    refine z_if_ne (tgt := 29) hx hb dX3_isOverload_11 (by decide) (by omega) (fun cd11 => ?_) (fun cd11 => ?_)
    · skip
      refine lv_iconst (v := zI 0) hx hb dX3_isOverload_29 rfl ?_
      exact W.zret (v := zI 0) (ty := .boolean) hx hb hr (by decide +kernel) (fun t9 ht hW => ⟨⟨_, (), rfl, Or.inr ⟨rfl, (by omega)⟩, trivial⟩, vF_R ht hS.1 hk0⟩) hS.2.2 dX3_isOverload_30
    · skip
      refine lv_aload_n hx hb dX3_isOverload_14 rfl (lv_at hl 0 rfl) ?_
      refine va_get (D := D) (ci := 5) (v := .int (zI (σ (22 + i) 3))) (C := RX3) (T := TX3) (N := 7) hx hb hts inX3 hown hK hP (22 + i) (wg_P (i := i) (by first | assumption | omega)) rfl 3 (by decide) k21 (fun _ h9 => h9) rfl dX3_isOverload_15 ?_
      refine lv_aload_n hx hb dX3_isOverload_18 rfl (lv_at hl 0 rfl) ?_
      refine va_get (D := D) (ci := 5) (v := .int (zI (σ (22 + i) 6))) (C := RX3) (T := TX3) (N := 7) hx hb hts inX3 hown hK hP (22 + i) (wg_P (i := i) (by first | assumption | omega)) rfl 6 (by decide) k27 (fun _ h9 => h9) rfl dX3_isOverload_19 ?_
      refine z_icmp_le (tgt := 29) hx hb dX3_isOverload_22 (by decide) (by omega) (by omega) (fun cd22 => ?_) (fun cd22 => ?_)
      · skip
        refine lv_iconst (v := zI 0) hx hb dX3_isOverload_29 rfl ?_
        exact W.zret (v := zI 0) (ty := .boolean) hx hb hr (by decide +kernel) (fun t9 ht hW => ⟨⟨_, (), rfl, Or.inr ⟨rfl, (by omega)⟩, trivial⟩, vF_R ht hS.1 hk0⟩) hS.2.2 dX3_isOverload_30
      · skip
        refine lv_iconst (v := zI 1) hx hb dX3_isOverload_25 rfl ?_
        refine lv_goto (tgt := 30) hx hb dX3_isOverload_26 (by decide) ?_
        exact W.zret (v := zI 1) (ty := .boolean) hx hb hr (by decide +kernel) (fun t9 ht hW => ⟨⟨_, (), rfl, Or.inl ⟨rfl, (by omega)⟩, trivial⟩, vF_R ht hS.1 hk0⟩) hS.2.2 dX3_isOverload_30

set_option maxHeartbeats 4000000 in
set_option maxRecDepth 100000 in
/-- X6_isShutAt -/
theorem c_X6_isShutAt (l : Launch) (D : va_G) (cy : Nat → ClassId) (a q : Nat → Nat) (σ : Nat → Nat → Int) (sz : Nat) (i : Nat) (hi : i < 6) (h : Int) (hh : rg h) (h9 : okZ (σ (7 + i))) : Met l yX6_isShutAt wsX6_isShutAt ({ frames := 7, cells := 0, slots := 0, locals := 100 }) (va_Pc [.ref (a (7 + i)), .int (zI (h))] (fun U => U.heap.size = sz ∧ Wd D cy a q σ U)) (va_Qi (fun (r : Int32) (_ : Unit) => (r = zI 1 ∧ (σ (7 + i) 3 ≤ h ∧ h < σ (7 + i) 4)) ∨ (r = zI 0 ∧ ¬ (σ (7 + i) 3 ≤ h ∧ h < σ (7 + i) 4))) (fun _ _ => True) (fun _ => False)) 0 0 (wF a sz) := by
  refine Met.ofW (cc := cX6_isShutAt) (maxL := 2) (ret := (some .boolean)) (by decide) rfl ?_
  intro p e s m args below meth c s₁ B hml hpc0
  obtain ⟨rfl, hsz, hW0⟩ := hpc0
  have hx := B.exec
  have hb := B.bytes
  have hr := B.returns
  have hts := atoms_spec (ws := wsX6_isShutAt) B.pre
  have hown : s.vm.findClass RX6 = some m.cls := findClass_of_methodNamed B.named
  have hlocks := B.notSynchronized
  subst hsz
  obtain ⟨hP00, hE0⟩ := id hW0
  obtain ⟨hK, hinj, hU0, hN0, hstr, hnest⟩ := id hE0
  have hP : va_P D vwCl (wld cy a q σ ++ []) s.heap := by rw [List.append_nil]; exact hP00
  have hD : va_D (wF a s.heap.size) (wld cy a q σ ++ []) := wD_of hinj
  have hA : ∀ x : Nat, s.heap.size ≤ x → wF a s.heap.size x := fun _ h => Or.inr h
  have hS : va_S (wF a s.heap.size) s.heap s.heap [] := va_S.rf
  have hk0 : ∀ x : Nat, x < s.heap.size → s.heap[x]? = s.heap[x]? := fun _ _ => rfl
  have hl := lv_entry ([.ref (a (7 + i)), .int (zI (h))]) (n := 2) (Nat.le_of_ble_eq_true rfl)
  rw [lg_entry_eq]
  generalize (lg_sl ([.ref (a (7 + i)), .int (zI (h))]) ++ List.replicate (2 - (lg_sl ([.ref (a (7 + i)), .int (zI (h))])).length) Slot.unset).toArray = ls at hl ⊢
  have hl : lv_has ls 2 [(0, .ref (a (7 + i))), (1, .int (zI (h)))] := hl
  have k22 := hts (.fieldLink RX6 22 "Slewfree$Zone" "begin" "I") (by decide +kernel)
  have k25 := hts (.fieldLink RX6 25 "Slewfree$Zone" "until" "I") (by decide +kernel)
  have inX6 : ∀ w ∈ u_ws RX6 TX6 5, w ∈ wsX6_isShutAt := by decide +kernel
  unfold okZ at h9
  refine lv_aload_n hx hb dX6_isShutAt_0 rfl (lv_at hl 0 rfl) ?_
  refine va_get (D := D) (ci := 8) (v := .int (zI (σ (7 + i) 3))) (C := RX6) (T := TX6) (N := 5) hx hb hts inX6 hown hK hP (7 + i) (wg_Z (i := i) (by first | assumption | omega)) rfl 3 (by decide) k22 (fun _ h9 => h9) rfl dX6_isShutAt_1 ?_
  refine lv_iload_n hx hb dX6_isShutAt_4 rfl (lv_at hl 1 rfl) ?_
  refine z_icmp_gt (tgt := 20) hx hb dX6_isShutAt_5 (by decide) (by omega) (by omega) (fun cd5 => ?_) (fun cd5 => ?_)
  · skip
    refine lv_iconst (v := zI 0) hx hb dX6_isShutAt_20 rfl ?_
    exact W.zret (v := zI 0) (ty := .boolean) hx hb hr (by decide +kernel) (fun t9 ht hW => ⟨⟨_, (), rfl, Or.inr ⟨rfl, (by omega)⟩, trivial⟩, vF_R ht hS.1 hk0⟩) hS.2.2 dX6_isShutAt_21
  · skip
    refine lv_iload_n hx hb dX6_isShutAt_8 rfl (lv_at hl 1 rfl) ?_
    refine lv_aload_n hx hb dX6_isShutAt_9 rfl (lv_at hl 0 rfl) ?_
    refine va_get (D := D) (ci := 8) (v := .int (zI (σ (7 + i) 4))) (C := RX6) (T := TX6) (N := 5) hx hb hts inX6 hown hK hP (7 + i) (wg_Z (i := i) (by first | assumption | omega)) rfl 4 (by decide) k25 (fun _ h9 => h9) rfl dX6_isShutAt_10 ?_
    refine z_icmp_ge (tgt := 20) hx hb dX6_isShutAt_13 (by decide) (by omega) (by omega) (fun cd13 => ?_) (fun cd13 => ?_)
    · skip
      refine lv_iconst (v := zI 0) hx hb dX6_isShutAt_20 rfl ?_
      exact W.zret (v := zI 0) (ty := .boolean) hx hb hr (by decide +kernel) (fun t9 ht hW => ⟨⟨_, (), rfl, Or.inr ⟨rfl, (by omega)⟩, trivial⟩, vF_R ht hS.1 hk0⟩) hS.2.2 dX6_isShutAt_21
    · skip
      refine lv_iconst (v := zI 1) hx hb dX6_isShutAt_16 rfl ?_
      refine lv_goto (tgt := 21) hx hb dX6_isShutAt_17 (by decide) ?_
      exact W.zret (v := zI 1) (ty := .boolean) hx hb hr (by decide +kernel) (fun t9 ht hW => ⟨⟨_, (), rfl, Or.inl ⟨rfl, (by omega)⟩, trivial⟩, vF_R ht hS.1 hk0⟩) hS.2.2 dX6_isShutAt_21

set_option maxHeartbeats 4000000 in
set_option maxRecDepth 100000 in
/-- X6_holds -/
theorem c_X6_holds (l : Launch) (D : va_G) (cy : Nat → ClassId) (a q : Nat → Nat) (σ : Nat → Nat → Int) (sz : Nat) (i : Nat) (hi : i < 6) (d : Int) (hd : rg d) (hd9 : 0 ≤ d ∧ d ≤ 24) (h9 : okZ (σ (7 + i))) : Met l yX6_holds wsX6_holds ({ frames := 9, cells := 0, slots := 0, locals := 300 }) (va_Pc [.ref (a (7 + i)), .int (zI (d))] (fun U => U.heap.size = sz ∧ Wd D cy a q σ U)) (va_Qi (fun (r : Int32) (_ : Unit) => (r = zI 1 ∧ ((d - σ (7 + i) 1) % 24 ≤ (σ (7 + i) 2 - σ (7 + i) 1) % 24)) ∨ (r = zI 0 ∧ ¬ ((d - σ (7 + i) 1) % 24 ≤ (σ (7 + i) 2 - σ (7 + i) 1) % 24))) (fun _ _ => True) (fun _ => False)) 0 0 (wF a sz) := by
  refine Met.ofW (cc := cX6_holds) (maxL := 2) (ret := (some .boolean)) (by decide) rfl ?_
  intro p e s m args below meth c s₁ B hml hpc0
  obtain ⟨rfl, hsz, hW0⟩ := hpc0
  have hx := B.exec
  have hb := B.bytes
  have hr := B.returns
  have hts := atoms_spec (ws := wsX6_holds) B.pre
  have hown : s.vm.findClass RX6 = some m.cls := findClass_of_methodNamed B.named
  have hlocks := B.notSynchronized
  subst hsz
  obtain ⟨hP00, hE0⟩ := id hW0
  obtain ⟨hK, hinj, hU0, hN0, hstr, hnest⟩ := id hE0
  have hP : va_P D vwCl (wld cy a q σ ++ []) s.heap := by rw [List.append_nil]; exact hP00
  have hD : va_D (wF a s.heap.size) (wld cy a q σ ++ []) := wD_of hinj
  have hA : ∀ x : Nat, s.heap.size ≤ x → wF a s.heap.size x := fun _ h => Or.inr h
  have hS : va_S (wF a s.heap.size) s.heap s.heap [] := va_S.rf
  have hk0 : ∀ x : Nat, x < s.heap.size → s.heap[x]? = s.heap[x]? := fun _ _ => rfl
  have hl := lv_entry ([.ref (a (7 + i)), .int (zI (d))]) (n := 2) (Nat.le_of_ble_eq_true rfl)
  rw [lg_entry_eq]
  generalize (lg_sl ([.ref (a (7 + i)), .int (zI (d))]) ++ List.replicate (2 - (lg_sl ([.ref (a (7 + i)), .int (zI (d))])).length) Slot.unset).toArray = ls at hl ⊢
  have hl : lv_has ls 2 [(0, .ref (a (7 + i))), (1, .int (zI (d)))] := hl
  have k7 := hts (.fieldLink RX6 7 "Slewfree$Zone" "from" "I") (by decide +kernel)
  have k19 := hts (.fieldLink RX6 19 "Slewfree$Zone" "to" "I") (by decide +kernel)
  have inX6 : ∀ w ∈ u_ws RX6 TX6 5, w ∈ wsX6_holds := by decide +kernel
  unfold okZ at h9
  refine lv_aload_n hx hb dX6_holds_0 rfl (lv_at hl 0 rfl) ?_
  refine va_get (D := D) (ci := 8) (v := .int (zI (σ (7 + i) 1))) (C := RX6) (T := TX6) (N := 5) hx hb hts inX6 hown hK hP (7 + i) (wg_Z (i := i) (by first | assumption | omega)) rfl 1 (by decide) k7 (fun _ h9 => h9) rfl dX6_holds_1 ?_
  refine lv_iload_n hx hb dX6_holds_4 rfl (lv_at hl 1 rfl) ?_
  refine va_calli (va_runSN (As := [.int (zI (σ (7 + i) 1)), .int (zI (d))]) (rest := []) ⟨hx, hb, hml, hown, hts⟩ (c_X7_risingSteps l (σ (7 + i) 1) (by omega) (d) (by omega) (by first | assumption | omega) (by first | assumption | omega)) ⟨va_cnB 2 hts gX6_holds_X7_risingSteps_n13 rfl rfl rfl (hnest.2.1) (hts (.initialized RX7) (by decide +kernel)) (by decide +kernel) ⟨Nat.le_of_ble_eq_true rfl, Nat.le_of_ble_eq_true rfl⟩, hts (.static yX7_risingSteps) (by decide +kernel), trivial⟩ ⟨fun _ _ _ _ h => h, fun _ _ _ => ⟨rfl, trivial⟩⟩ rfl rfl hl.1 rfl (lv_room (Nat.le_of_ble_eq_true rfl)) dX6_holds_5 ⟨(show 0 + 0 ≤ 0 by omega), (show 0 + 0 ≤ 0 by omega)⟩) hS (fun _ _ h => h.elim) (fun _ h => h.elim) (fun rv5 u9 t9 H locs ht hvm hw hB hz hk hS1 => ?_)
  have hP := hP.kept (fun k x hk9 => hk x.1 ((hP k x hk9).lt) (fun h => h))
  have hk0 : ∀ x : Nat, x < s.heap.size → H[x]? = s.heap[x]? := fun x h9 => (hk x (Nat.lt_of_lt_of_le h9 hS.1) (fun h => h)).trans (hk0 x h9)
  have hS := hS1
  obtain rfl := hw
  refine lv_aload_n hx hb dX6_holds_8 rfl (lv_at hl 0 rfl) ?_
  refine va_get (D := D) (ci := 8) (v := .int (zI (σ (7 + i) 1))) (C := RX6) (T := TX6) (N := 5) hx hb hts inX6 hown hK hP (7 + i) (wg_Z (i := i) (by first | assumption | omega)) rfl 1 (by decide) k7 (fun _ h9 => h9) rfl dX6_holds_9 ?_
  refine lv_aload_n hx hb dX6_holds_12 rfl (lv_at hl 0 rfl) ?_
  refine va_get (D := D) (ci := 8) (v := .int (zI (σ (7 + i) 2))) (C := RX6) (T := TX6) (N := 5) hx hb hts inX6 hown hK hP (7 + i) (wg_Z (i := i) (by first | assumption | omega)) rfl 2 (by decide) k19 (fun _ h9 => h9) rfl dX6_holds_13 ?_
  refine va_calli (va_runSN (As := [.int (zI (σ (7 + i) 1)), .int (zI (σ (7 + i) 2))]) (rest := [.int (zI ((d - (σ (7 + i) 1)) % 24))]) ⟨hx, hb, hml, hown, hts⟩ (c_X7_risingSteps l (σ (7 + i) 1) (by omega) (σ (7 + i) 2) (by omega) (by first | assumption | omega) (by first | assumption | omega)) ⟨va_cnB 2 hts gX6_holds_X7_risingSteps_n13 rfl rfl rfl (hnest.2.1) (hts (.initialized RX7) (by decide +kernel)) (by decide +kernel) ⟨Nat.le_of_ble_eq_true rfl, Nat.le_of_ble_eq_true rfl⟩, hts (.static yX7_risingSteps) (by decide +kernel), trivial⟩ ⟨fun _ _ _ _ h => h, fun _ _ _ => ⟨rfl, trivial⟩⟩ rfl rfl hl.1 rfl (lv_room (Nat.le_of_ble_eq_true rfl)) dX6_holds_16 ⟨(show 0 + 0 + 0 ≤ 0 by omega), (show 0 + 0 + 0 ≤ 0 by omega)⟩) hS (fun _ _ h => h.elim) (fun _ h => h.elim) (fun rv16 u9 t9 H locs ht hvm hw hB hz hk hS1 => ?_)
  have hP := hP.kept (fun k x hk9 => hk x.1 ((hP k x hk9).lt) (fun h => h))
  have hk0 : ∀ x : Nat, x < s.heap.size → H[x]? = s.heap[x]? := fun x h9 => (hk x (Nat.lt_of_lt_of_le h9 hS.1) (fun h => h)).trans (hk0 x h9)
  have hS := hS1
  obtain rfl := hw
  refine z_icmp_gt (tgt := 26) hx hb dX6_holds_19 (by decide) (by omega) (by omega) (fun cd19 => ?_) (fun cd19 => ?_)
  · skip
    refine lv_iconst (v := zI 0) hx hb dX6_holds_26 rfl ?_
    refine W.widen (k := 0) (n := 0) (by omega) (by omega) ?_
    exact W.zret (v := zI 0) (ty := .boolean) hx hb hr (by decide +kernel) (fun t9 ht hW => ⟨⟨_, (), rfl, Or.inr ⟨rfl, (by omega)⟩, trivial⟩, vF_R ht hS.1 hk0⟩) hS.2.2 dX6_holds_27
  · skip
    refine lv_iconst (v := zI 1) hx hb dX6_holds_22 rfl ?_
    refine lv_goto (tgt := 27) hx hb dX6_holds_23 (by decide) ?_
    refine W.widen (k := 0) (n := 0) (by omega) (by omega) ?_
    exact W.zret (v := zI 1) (ty := .boolean) hx hb hr (by decide +kernel) (fun t9 ht hW => ⟨⟨_, (), rfl, Or.inl ⟨rfl, (by omega)⟩, trivial⟩, vF_R ht hS.1 hk0⟩) hS.2.2 dX6_holds_27

set_option maxHeartbeats 4000000 in
set_option maxRecDepth 100000 in
/-- X2_isMetBy -/
theorem c_X2_isMetBy (l : Launch) (D : va_G) (cy : Nat → ClassId) (a q : Nat → Nat) (σ : Nat → Nat → Int) (sz : Nat) (i : Nat) (hi : i < 6) (c9 : Int) (hc9 : rg c9) (h0 : Int) (hh0 : rg h0) (c2 : Int) (hc2 : rg c2) (h2 : Int) (hh2 : rg h2) (h9 : okM (σ (14 + i))) : Met l yX2_isMetBy wsX2_isMetBy ({ frames := 7, cells := 0, slots := 0, locals := 100 }) (va_Pc [.ref (a (14 + i)), .int (zI (c9)), .int (zI (h0)), .int (zI (c2)), .int (zI (h2))] (fun U => U.heap.size = sz ∧ Wd D cy a q σ U)) (va_Qi (fun (r : Int32) (_ : Unit) => (r = zI 1 ∧ ((σ (14 + i) 0 = c9 ∧ σ (14 + i) 1 = h0 ∧ σ (14 + i) 2 = c2 ∧ σ (14 + i) 3 = h2) ∨ (σ (14 + i) 0 = c2 ∧ σ (14 + i) 1 = h2 ∧ σ (14 + i) 2 = c9 ∧ σ (14 + i) 3 = h0))) ∨ (r = zI 0 ∧ ¬ ((σ (14 + i) 0 = c9 ∧ σ (14 + i) 1 = h0 ∧ σ (14 + i) 2 = c2 ∧ σ (14 + i) 3 = h2) ∨ (σ (14 + i) 0 = c2 ∧ σ (14 + i) 1 = h2 ∧ σ (14 + i) 2 = c9 ∧ σ (14 + i) 3 = h0)))) (fun _ _ => True) (fun _ => False)) 0 0 (wF a sz) := by
  refine Met.ofW (cc := cX2_isMetBy) (maxL := 7) (ret := (some .boolean)) (by decide) rfl ?_
  intro p e s m args below meth c s₁ B hml hpc0
  obtain ⟨rfl, hsz, hW0⟩ := hpc0
  have hx := B.exec
  have hb := B.bytes
  have hr := B.returns
  have hts := atoms_spec (ws := wsX2_isMetBy) B.pre
  have hown : s.vm.findClass RX2 = some m.cls := findClass_of_methodNamed B.named
  have hlocks := B.notSynchronized
  subst hsz
  obtain ⟨hP00, hE0⟩ := id hW0
  obtain ⟨hK, hinj, hU0, hN0, hstr, hnest⟩ := id hE0
  have hP : va_P D vwCl (wld cy a q σ ++ []) s.heap := by rw [List.append_nil]; exact hP00
  have hD : va_D (wF a s.heap.size) (wld cy a q σ ++ []) := wD_of hinj
  have hA : ∀ x : Nat, s.heap.size ≤ x → wF a s.heap.size x := fun _ h => Or.inr h
  have hS : va_S (wF a s.heap.size) s.heap s.heap [] := va_S.rf
  have hk0 : ∀ x : Nat, x < s.heap.size → s.heap[x]? = s.heap[x]? := fun _ _ => rfl
  have hl := lv_entry ([.ref (a (14 + i)), .int (zI (c9)), .int (zI (h0)), .int (zI (c2)), .int (zI (h2))]) (n := 7) (Nat.le_of_ble_eq_true rfl)
  rw [lg_entry_eq]
  generalize (lg_sl ([.ref (a (14 + i)), .int (zI (c9)), .int (zI (h0)), .int (zI (c2)), .int (zI (h2))]) ++ List.replicate (7 - (lg_sl ([.ref (a (14 + i)), .int (zI (c9)), .int (zI (h0)), .int (zI (c2)), .int (zI (h2))])).length) Slot.unset).toArray = ls at hl ⊢
  have hl : lv_has ls 7 [(0, .ref (a (14 + i))), (1, .int (zI (c9))), (2, .int (zI (h0))), (3, .int (zI (c2))), (4, .int (zI (h2)))] := hl
  have k7 := hts (.fieldLink RX2 7 "Slewfree$Meeting" "one" "I") (by decide +kernel)
  have k13 := hts (.fieldLink RX2 13 "Slewfree$Meeting" "angle" "I") (by decide +kernel)
  have k16 := hts (.fieldLink RX2 16 "Slewfree$Meeting" "other" "I") (by decide +kernel)
  have k19 := hts (.fieldLink RX2 19 "Slewfree$Meeting" "otherAngle" "I") (by decide +kernel)
  have inX2 : ∀ w ∈ u_ws RX2 TX2 4, w ∈ wsX2_isMetBy := by decide +kernel
  unfold okM at h9
  refine lv_aload_n hx hb dX2_isMetBy_0 rfl (lv_at hl 0 rfl) ?_
  refine va_get (D := D) (ci := 4) (v := .int (zI (σ (14 + i) 0))) (C := RX2) (T := TX2) (N := 4) hx hb hts inX2 hown hK hP (14 + i) (wg_M (i := i) (by first | assumption | omega)) rfl 0 (by decide) k7 (fun _ h9 => h9) rfl dX2_isMetBy_1 ?_
  refine lv_iload_n hx hb dX2_isMetBy_4 rfl (lv_at hl 1 rfl) ?_
  refine z_icmp_ne (tgt := 37) hx hb dX2_isMetBy_5 (by decide) (by omega) (by omega) (fun cd5 => ?_) (fun cd5 => ?_)
  · skip
    refine lv_iconst (v := zI 0) hx hb dX2_isMetBy_37 rfl ?_
    refine lv_istore (lv' := [(5, .int (zI (0))), (0, .ref (a (14 + i))), (1, .int (zI (c9))), (2, .int (zI (h0))), (3, .int (zI (c2))), (4, .int (zI (h2)))]) hx hb dX2_isMetBy_38 hl (by decide) rfl (fun ls hl => ?_)
    refine lv_aload_n hx hb dX2_isMetBy_40 rfl (lv_at hl 1 rfl) ?_
    refine va_get (D := D) (ci := 4) (v := .int (zI (σ (14 + i) 0))) (C := RX2) (T := TX2) (N := 4) hx hb hts inX2 hown hK hP (14 + i) (wg_M (i := i) (by first | assumption | omega)) rfl 0 (by decide) k7 (fun _ h9 => h9) rfl dX2_isMetBy_41 ?_
    refine lv_iload_n hx hb dX2_isMetBy_44 rfl (lv_at hl 4 rfl) ?_
    refine z_icmp_ne (tgt := 77) hx hb dX2_isMetBy_45 (by decide) (by omega) (by omega) (fun cd45 => ?_) (fun cd45 => ?_)
    · skip
      refine lv_iconst (v := zI 0) hx hb dX2_isMetBy_77 rfl ?_
      refine lv_istore (lv' := [(6, .int (zI (0))), (5, .int (zI (0))), (0, .ref (a (14 + i))), (1, .int (zI (c9))), (2, .int (zI (h0))), (3, .int (zI (c2))), (4, .int (zI (h2)))]) hx hb dX2_isMetBy_78 hl (by decide) rfl (fun ls hl => ?_)
      refine lv_iload hx hb dX2_isMetBy_80 (lv_at hl 1 rfl) ?_
      refine z_if_ne (tgt := 90) hx hb dX2_isMetBy_82 (by decide) (by decide) (fun cd82 => absurd cd82 (by decide)) (fun _ => ?_)
      refine lv_iload hx hb dX2_isMetBy_85 (lv_at hl 0 rfl) ?_
      refine z_if_eq (tgt := 94) hx hb dX2_isMetBy_87 (by decide) (by decide) (fun _ => ?_) (fun cd87 => absurd cd87 (by decide))
      refine lv_iconst (v := zI 0) hx hb dX2_isMetBy_94 rfl ?_
      exact W.zret (v := zI 0) (ty := .boolean) hx hb hr (by decide +kernel) (fun t9 ht hW => ⟨⟨_, (), rfl, Or.inr ⟨rfl, (by omega)⟩, trivial⟩, vF_R ht hS.1 hk0⟩) hS.2.2 dX2_isMetBy_95
    · skip
      refine lv_aload_n hx hb dX2_isMetBy_48 rfl (lv_at hl 1 rfl) ?_
      refine va_get (D := D) (ci := 4) (v := .int (zI (σ (14 + i) 1))) (C := RX2) (T := TX2) (N := 4) hx hb hts inX2 hown hK hP (14 + i) (wg_M (i := i) (by first | assumption | omega)) rfl 1 (by decide) k13 (fun _ h9 => h9) rfl dX2_isMetBy_49 ?_
      refine lv_iload hx hb dX2_isMetBy_52 (lv_at hl 5 rfl) ?_
      refine z_icmp_ne (tgt := 77) hx hb dX2_isMetBy_54 (by decide) (by omega) (by omega) (fun cd54 => ?_) (fun cd54 => ?_)
      · skip
        refine lv_iconst (v := zI 0) hx hb dX2_isMetBy_77 rfl ?_
        refine lv_istore (lv' := [(6, .int (zI (0))), (5, .int (zI (0))), (0, .ref (a (14 + i))), (1, .int (zI (c9))), (2, .int (zI (h0))), (3, .int (zI (c2))), (4, .int (zI (h2)))]) hx hb dX2_isMetBy_78 hl (by decide) rfl (fun ls hl => ?_)
        refine lv_iload hx hb dX2_isMetBy_80 (lv_at hl 1 rfl) ?_
        refine z_if_ne (tgt := 90) hx hb dX2_isMetBy_82 (by decide) (by decide) (fun cd82 => absurd cd82 (by decide)) (fun _ => ?_)
        refine lv_iload hx hb dX2_isMetBy_85 (lv_at hl 0 rfl) ?_
        refine z_if_eq (tgt := 94) hx hb dX2_isMetBy_87 (by decide) (by decide) (fun _ => ?_) (fun cd87 => absurd cd87 (by decide))
        refine lv_iconst (v := zI 0) hx hb dX2_isMetBy_94 rfl ?_
        exact W.zret (v := zI 0) (ty := .boolean) hx hb hr (by decide +kernel) (fun t9 ht hW => ⟨⟨_, (), rfl, Or.inr ⟨rfl, (by omega)⟩, trivial⟩, vF_R ht hS.1 hk0⟩) hS.2.2 dX2_isMetBy_95
      · skip
        refine lv_aload_n hx hb dX2_isMetBy_57 rfl (lv_at hl 1 rfl) ?_
        refine va_get (D := D) (ci := 4) (v := .int (zI (σ (14 + i) 2))) (C := RX2) (T := TX2) (N := 4) hx hb hts inX2 hown hK hP (14 + i) (wg_M (i := i) (by first | assumption | omega)) rfl 2 (by decide) k16 (fun _ h9 => h9) rfl dX2_isMetBy_58 ?_
        refine lv_iload_n hx hb dX2_isMetBy_61 rfl (lv_at hl 2 rfl) ?_
        refine z_icmp_ne (tgt := 77) hx hb dX2_isMetBy_62 (by decide) (by omega) (by omega) (fun cd62 => ?_) (fun cd62 => ?_)
        · skip
          refine lv_iconst (v := zI 0) hx hb dX2_isMetBy_77 rfl ?_
          refine lv_istore (lv' := [(6, .int (zI (0))), (5, .int (zI (0))), (0, .ref (a (14 + i))), (1, .int (zI (c9))), (2, .int (zI (h0))), (3, .int (zI (c2))), (4, .int (zI (h2)))]) hx hb dX2_isMetBy_78 hl (by decide) rfl (fun ls hl => ?_)
          refine lv_iload hx hb dX2_isMetBy_80 (lv_at hl 1 rfl) ?_
          refine z_if_ne (tgt := 90) hx hb dX2_isMetBy_82 (by decide) (by decide) (fun cd82 => absurd cd82 (by decide)) (fun _ => ?_)
          refine lv_iload hx hb dX2_isMetBy_85 (lv_at hl 0 rfl) ?_
          refine z_if_eq (tgt := 94) hx hb dX2_isMetBy_87 (by decide) (by decide) (fun _ => ?_) (fun cd87 => absurd cd87 (by decide))
          refine lv_iconst (v := zI 0) hx hb dX2_isMetBy_94 rfl ?_
          exact W.zret (v := zI 0) (ty := .boolean) hx hb hr (by decide +kernel) (fun t9 ht hW => ⟨⟨_, (), rfl, Or.inr ⟨rfl, (by omega)⟩, trivial⟩, vF_R ht hS.1 hk0⟩) hS.2.2 dX2_isMetBy_95
        · skip
          refine lv_aload_n hx hb dX2_isMetBy_65 rfl (lv_at hl 1 rfl) ?_
          refine va_get (D := D) (ci := 4) (v := .int (zI (σ (14 + i) 3))) (C := RX2) (T := TX2) (N := 4) hx hb hts inX2 hown hK hP (14 + i) (wg_M (i := i) (by first | assumption | omega)) rfl 3 (by decide) k19 (fun _ h9 => h9) rfl dX2_isMetBy_66 ?_
          refine lv_iload_n hx hb dX2_isMetBy_69 rfl (lv_at hl 3 rfl) ?_
          refine z_icmp_ne (tgt := 77) hx hb dX2_isMetBy_70 (by decide) (by omega) (by omega) (fun cd70 => ?_) (fun cd70 => ?_)
          · skip
            refine lv_iconst (v := zI 0) hx hb dX2_isMetBy_77 rfl ?_
            refine lv_istore (lv' := [(6, .int (zI (0))), (5, .int (zI (0))), (0, .ref (a (14 + i))), (1, .int (zI (c9))), (2, .int (zI (h0))), (3, .int (zI (c2))), (4, .int (zI (h2)))]) hx hb dX2_isMetBy_78 hl (by decide) rfl (fun ls hl => ?_)
            refine lv_iload hx hb dX2_isMetBy_80 (lv_at hl 1 rfl) ?_
            refine z_if_ne (tgt := 90) hx hb dX2_isMetBy_82 (by decide) (by decide) (fun cd82 => absurd cd82 (by decide)) (fun _ => ?_)
            refine lv_iload hx hb dX2_isMetBy_85 (lv_at hl 0 rfl) ?_
            refine z_if_eq (tgt := 94) hx hb dX2_isMetBy_87 (by decide) (by decide) (fun _ => ?_) (fun cd87 => absurd cd87 (by decide))
            refine lv_iconst (v := zI 0) hx hb dX2_isMetBy_94 rfl ?_
            exact W.zret (v := zI 0) (ty := .boolean) hx hb hr (by decide +kernel) (fun t9 ht hW => ⟨⟨_, (), rfl, Or.inr ⟨rfl, (by omega)⟩, trivial⟩, vF_R ht hS.1 hk0⟩) hS.2.2 dX2_isMetBy_95
          · skip
            refine lv_iconst (v := zI 1) hx hb dX2_isMetBy_73 rfl ?_
            refine lv_goto (tgt := 78) hx hb dX2_isMetBy_74 (by decide) ?_
            refine lv_istore (lv' := [(6, .int (zI (1))), (5, .int (zI (0))), (0, .ref (a (14 + i))), (1, .int (zI (c9))), (2, .int (zI (h0))), (3, .int (zI (c2))), (4, .int (zI (h2)))]) hx hb dX2_isMetBy_78 hl (by decide) rfl (fun ls hl => ?_)
            refine lv_iload hx hb dX2_isMetBy_80 (lv_at hl 1 rfl) ?_
            refine z_if_ne (tgt := 90) hx hb dX2_isMetBy_82 (by decide) (by decide) (fun cd82 => absurd cd82 (by decide)) (fun _ => ?_)
            refine lv_iload hx hb dX2_isMetBy_85 (lv_at hl 0 rfl) ?_
            refine z_if_eq (tgt := 94) hx hb dX2_isMetBy_87 (by decide) (by decide) (fun cd87 => absurd cd87 (by decide)) (fun _ => ?_)
            refine lv_iconst (v := zI 1) hx hb dX2_isMetBy_90 rfl ?_
            refine lv_goto (tgt := 95) hx hb dX2_isMetBy_91 (by decide) ?_
            exact W.zret (v := zI 1) (ty := .boolean) hx hb hr (by decide +kernel) (fun t9 ht hW => ⟨⟨_, (), rfl, Or.inl ⟨rfl, (by omega)⟩, trivial⟩, vF_R ht hS.1 hk0⟩) hS.2.2 dX2_isMetBy_95
  · skip
    refine lv_aload_n hx hb dX2_isMetBy_8 rfl (lv_at hl 0 rfl) ?_
    refine va_get (D := D) (ci := 4) (v := .int (zI (σ (14 + i) 1))) (C := RX2) (T := TX2) (N := 4) hx hb hts inX2 hown hK hP (14 + i) (wg_M (i := i) (by first | assumption | omega)) rfl 1 (by decide) k13 (fun _ h9 => h9) rfl dX2_isMetBy_9 ?_
    refine lv_iload_n hx hb dX2_isMetBy_12 rfl (lv_at hl 2 rfl) ?_
    refine z_icmp_ne (tgt := 37) hx hb dX2_isMetBy_13 (by decide) (by omega) (by omega) (fun cd13 => ?_) (fun cd13 => ?_)
    · skip
      refine lv_iconst (v := zI 0) hx hb dX2_isMetBy_37 rfl ?_
      refine lv_istore (lv' := [(5, .int (zI (0))), (0, .ref (a (14 + i))), (1, .int (zI (c9))), (2, .int (zI (h0))), (3, .int (zI (c2))), (4, .int (zI (h2)))]) hx hb dX2_isMetBy_38 hl (by decide) rfl (fun ls hl => ?_)
      refine lv_aload_n hx hb dX2_isMetBy_40 rfl (lv_at hl 1 rfl) ?_
      refine va_get (D := D) (ci := 4) (v := .int (zI (σ (14 + i) 0))) (C := RX2) (T := TX2) (N := 4) hx hb hts inX2 hown hK hP (14 + i) (wg_M (i := i) (by first | assumption | omega)) rfl 0 (by decide) k7 (fun _ h9 => h9) rfl dX2_isMetBy_41 ?_
      refine lv_iload_n hx hb dX2_isMetBy_44 rfl (lv_at hl 4 rfl) ?_
      refine z_icmp_ne (tgt := 77) hx hb dX2_isMetBy_45 (by decide) (by omega) (by omega) (fun cd45 => ?_) (fun cd45 => ?_)
      · skip
        refine lv_iconst (v := zI 0) hx hb dX2_isMetBy_77 rfl ?_
        refine lv_istore (lv' := [(6, .int (zI (0))), (5, .int (zI (0))), (0, .ref (a (14 + i))), (1, .int (zI (c9))), (2, .int (zI (h0))), (3, .int (zI (c2))), (4, .int (zI (h2)))]) hx hb dX2_isMetBy_78 hl (by decide) rfl (fun ls hl => ?_)
        refine lv_iload hx hb dX2_isMetBy_80 (lv_at hl 1 rfl) ?_
        refine z_if_ne (tgt := 90) hx hb dX2_isMetBy_82 (by decide) (by decide) (fun cd82 => absurd cd82 (by decide)) (fun _ => ?_)
        refine lv_iload hx hb dX2_isMetBy_85 (lv_at hl 0 rfl) ?_
        refine z_if_eq (tgt := 94) hx hb dX2_isMetBy_87 (by decide) (by decide) (fun _ => ?_) (fun cd87 => absurd cd87 (by decide))
        refine lv_iconst (v := zI 0) hx hb dX2_isMetBy_94 rfl ?_
        exact W.zret (v := zI 0) (ty := .boolean) hx hb hr (by decide +kernel) (fun t9 ht hW => ⟨⟨_, (), rfl, Or.inr ⟨rfl, (by omega)⟩, trivial⟩, vF_R ht hS.1 hk0⟩) hS.2.2 dX2_isMetBy_95
      · skip
        refine lv_aload_n hx hb dX2_isMetBy_48 rfl (lv_at hl 1 rfl) ?_
        refine va_get (D := D) (ci := 4) (v := .int (zI (σ (14 + i) 1))) (C := RX2) (T := TX2) (N := 4) hx hb hts inX2 hown hK hP (14 + i) (wg_M (i := i) (by first | assumption | omega)) rfl 1 (by decide) k13 (fun _ h9 => h9) rfl dX2_isMetBy_49 ?_
        refine lv_iload hx hb dX2_isMetBy_52 (lv_at hl 5 rfl) ?_
        refine z_icmp_ne (tgt := 77) hx hb dX2_isMetBy_54 (by decide) (by omega) (by omega) (fun cd54 => ?_) (fun cd54 => ?_)
        · skip
          refine lv_iconst (v := zI 0) hx hb dX2_isMetBy_77 rfl ?_
          refine lv_istore (lv' := [(6, .int (zI (0))), (5, .int (zI (0))), (0, .ref (a (14 + i))), (1, .int (zI (c9))), (2, .int (zI (h0))), (3, .int (zI (c2))), (4, .int (zI (h2)))]) hx hb dX2_isMetBy_78 hl (by decide) rfl (fun ls hl => ?_)
          refine lv_iload hx hb dX2_isMetBy_80 (lv_at hl 1 rfl) ?_
          refine z_if_ne (tgt := 90) hx hb dX2_isMetBy_82 (by decide) (by decide) (fun cd82 => absurd cd82 (by decide)) (fun _ => ?_)
          refine lv_iload hx hb dX2_isMetBy_85 (lv_at hl 0 rfl) ?_
          refine z_if_eq (tgt := 94) hx hb dX2_isMetBy_87 (by decide) (by decide) (fun _ => ?_) (fun cd87 => absurd cd87 (by decide))
          refine lv_iconst (v := zI 0) hx hb dX2_isMetBy_94 rfl ?_
          exact W.zret (v := zI 0) (ty := .boolean) hx hb hr (by decide +kernel) (fun t9 ht hW => ⟨⟨_, (), rfl, Or.inr ⟨rfl, (by omega)⟩, trivial⟩, vF_R ht hS.1 hk0⟩) hS.2.2 dX2_isMetBy_95
        · skip
          refine lv_aload_n hx hb dX2_isMetBy_57 rfl (lv_at hl 1 rfl) ?_
          refine va_get (D := D) (ci := 4) (v := .int (zI (σ (14 + i) 2))) (C := RX2) (T := TX2) (N := 4) hx hb hts inX2 hown hK hP (14 + i) (wg_M (i := i) (by first | assumption | omega)) rfl 2 (by decide) k16 (fun _ h9 => h9) rfl dX2_isMetBy_58 ?_
          refine lv_iload_n hx hb dX2_isMetBy_61 rfl (lv_at hl 2 rfl) ?_
          refine z_icmp_ne (tgt := 77) hx hb dX2_isMetBy_62 (by decide) (by omega) (by omega) (fun cd62 => ?_) (fun cd62 => ?_)
          · skip
            refine lv_iconst (v := zI 0) hx hb dX2_isMetBy_77 rfl ?_
            refine lv_istore (lv' := [(6, .int (zI (0))), (5, .int (zI (0))), (0, .ref (a (14 + i))), (1, .int (zI (c9))), (2, .int (zI (h0))), (3, .int (zI (c2))), (4, .int (zI (h2)))]) hx hb dX2_isMetBy_78 hl (by decide) rfl (fun ls hl => ?_)
            refine lv_iload hx hb dX2_isMetBy_80 (lv_at hl 1 rfl) ?_
            refine z_if_ne (tgt := 90) hx hb dX2_isMetBy_82 (by decide) (by decide) (fun cd82 => absurd cd82 (by decide)) (fun _ => ?_)
            refine lv_iload hx hb dX2_isMetBy_85 (lv_at hl 0 rfl) ?_
            refine z_if_eq (tgt := 94) hx hb dX2_isMetBy_87 (by decide) (by decide) (fun _ => ?_) (fun cd87 => absurd cd87 (by decide))
            refine lv_iconst (v := zI 0) hx hb dX2_isMetBy_94 rfl ?_
            exact W.zret (v := zI 0) (ty := .boolean) hx hb hr (by decide +kernel) (fun t9 ht hW => ⟨⟨_, (), rfl, Or.inr ⟨rfl, (by omega)⟩, trivial⟩, vF_R ht hS.1 hk0⟩) hS.2.2 dX2_isMetBy_95
          · skip
            refine lv_aload_n hx hb dX2_isMetBy_65 rfl (lv_at hl 1 rfl) ?_
            refine va_get (D := D) (ci := 4) (v := .int (zI (σ (14 + i) 3))) (C := RX2) (T := TX2) (N := 4) hx hb hts inX2 hown hK hP (14 + i) (wg_M (i := i) (by first | assumption | omega)) rfl 3 (by decide) k19 (fun _ h9 => h9) rfl dX2_isMetBy_66 ?_
            refine lv_iload_n hx hb dX2_isMetBy_69 rfl (lv_at hl 3 rfl) ?_
            refine z_icmp_ne (tgt := 77) hx hb dX2_isMetBy_70 (by decide) (by omega) (by omega) (fun cd70 => ?_) (fun cd70 => ?_)
            · skip
              refine lv_iconst (v := zI 0) hx hb dX2_isMetBy_77 rfl ?_
              refine lv_istore (lv' := [(6, .int (zI (0))), (5, .int (zI (0))), (0, .ref (a (14 + i))), (1, .int (zI (c9))), (2, .int (zI (h0))), (3, .int (zI (c2))), (4, .int (zI (h2)))]) hx hb dX2_isMetBy_78 hl (by decide) rfl (fun ls hl => ?_)
              refine lv_iload hx hb dX2_isMetBy_80 (lv_at hl 1 rfl) ?_
              refine z_if_ne (tgt := 90) hx hb dX2_isMetBy_82 (by decide) (by decide) (fun cd82 => absurd cd82 (by decide)) (fun _ => ?_)
              refine lv_iload hx hb dX2_isMetBy_85 (lv_at hl 0 rfl) ?_
              refine z_if_eq (tgt := 94) hx hb dX2_isMetBy_87 (by decide) (by decide) (fun _ => ?_) (fun cd87 => absurd cd87 (by decide))
              refine lv_iconst (v := zI 0) hx hb dX2_isMetBy_94 rfl ?_
              exact W.zret (v := zI 0) (ty := .boolean) hx hb hr (by decide +kernel) (fun t9 ht hW => ⟨⟨_, (), rfl, Or.inr ⟨rfl, (by omega)⟩, trivial⟩, vF_R ht hS.1 hk0⟩) hS.2.2 dX2_isMetBy_95
            · skip
              refine lv_iconst (v := zI 1) hx hb dX2_isMetBy_73 rfl ?_
              refine lv_goto (tgt := 78) hx hb dX2_isMetBy_74 (by decide) ?_
              refine lv_istore (lv' := [(6, .int (zI (1))), (5, .int (zI (0))), (0, .ref (a (14 + i))), (1, .int (zI (c9))), (2, .int (zI (h0))), (3, .int (zI (c2))), (4, .int (zI (h2)))]) hx hb dX2_isMetBy_78 hl (by decide) rfl (fun ls hl => ?_)
              refine lv_iload hx hb dX2_isMetBy_80 (lv_at hl 1 rfl) ?_
              refine z_if_ne (tgt := 90) hx hb dX2_isMetBy_82 (by decide) (by decide) (fun cd82 => absurd cd82 (by decide)) (fun _ => ?_)
              refine lv_iload hx hb dX2_isMetBy_85 (lv_at hl 0 rfl) ?_
              refine z_if_eq (tgt := 94) hx hb dX2_isMetBy_87 (by decide) (by decide) (fun cd87 => absurd cd87 (by decide)) (fun _ => ?_)
              refine lv_iconst (v := zI 1) hx hb dX2_isMetBy_90 rfl ?_
              refine lv_goto (tgt := 95) hx hb dX2_isMetBy_91 (by decide) ?_
              exact W.zret (v := zI 1) (ty := .boolean) hx hb hr (by decide +kernel) (fun t9 ht hW => ⟨⟨_, (), rfl, Or.inl ⟨rfl, (by omega)⟩, trivial⟩, vF_R ht hS.1 hk0⟩) hS.2.2 dX2_isMetBy_95
    · skip
      refine lv_aload_n hx hb dX2_isMetBy_16 rfl (lv_at hl 0 rfl) ?_
      refine va_get (D := D) (ci := 4) (v := .int (zI (σ (14 + i) 2))) (C := RX2) (T := TX2) (N := 4) hx hb hts inX2 hown hK hP (14 + i) (wg_M (i := i) (by first | assumption | omega)) rfl 2 (by decide) k16 (fun _ h9 => h9) rfl dX2_isMetBy_17 ?_
      refine lv_iload_n hx hb dX2_isMetBy_20 rfl (lv_at hl 3 rfl) ?_
      refine z_icmp_ne (tgt := 37) hx hb dX2_isMetBy_21 (by decide) (by omega) (by omega) (fun cd21 => ?_) (fun cd21 => ?_)
      · skip
        refine lv_iconst (v := zI 0) hx hb dX2_isMetBy_37 rfl ?_
        refine lv_istore (lv' := [(5, .int (zI (0))), (0, .ref (a (14 + i))), (1, .int (zI (c9))), (2, .int (zI (h0))), (3, .int (zI (c2))), (4, .int (zI (h2)))]) hx hb dX2_isMetBy_38 hl (by decide) rfl (fun ls hl => ?_)
        refine lv_aload_n hx hb dX2_isMetBy_40 rfl (lv_at hl 1 rfl) ?_
        refine va_get (D := D) (ci := 4) (v := .int (zI (σ (14 + i) 0))) (C := RX2) (T := TX2) (N := 4) hx hb hts inX2 hown hK hP (14 + i) (wg_M (i := i) (by first | assumption | omega)) rfl 0 (by decide) k7 (fun _ h9 => h9) rfl dX2_isMetBy_41 ?_
        refine lv_iload_n hx hb dX2_isMetBy_44 rfl (lv_at hl 4 rfl) ?_
        refine z_icmp_ne (tgt := 77) hx hb dX2_isMetBy_45 (by decide) (by omega) (by omega) (fun cd45 => ?_) (fun cd45 => ?_)
        · skip
          refine lv_iconst (v := zI 0) hx hb dX2_isMetBy_77 rfl ?_
          refine lv_istore (lv' := [(6, .int (zI (0))), (5, .int (zI (0))), (0, .ref (a (14 + i))), (1, .int (zI (c9))), (2, .int (zI (h0))), (3, .int (zI (c2))), (4, .int (zI (h2)))]) hx hb dX2_isMetBy_78 hl (by decide) rfl (fun ls hl => ?_)
          refine lv_iload hx hb dX2_isMetBy_80 (lv_at hl 1 rfl) ?_
          refine z_if_ne (tgt := 90) hx hb dX2_isMetBy_82 (by decide) (by decide) (fun cd82 => absurd cd82 (by decide)) (fun _ => ?_)
          refine lv_iload hx hb dX2_isMetBy_85 (lv_at hl 0 rfl) ?_
          refine z_if_eq (tgt := 94) hx hb dX2_isMetBy_87 (by decide) (by decide) (fun _ => ?_) (fun cd87 => absurd cd87 (by decide))
          refine lv_iconst (v := zI 0) hx hb dX2_isMetBy_94 rfl ?_
          exact W.zret (v := zI 0) (ty := .boolean) hx hb hr (by decide +kernel) (fun t9 ht hW => ⟨⟨_, (), rfl, Or.inr ⟨rfl, (by omega)⟩, trivial⟩, vF_R ht hS.1 hk0⟩) hS.2.2 dX2_isMetBy_95
        · skip
          refine lv_aload_n hx hb dX2_isMetBy_48 rfl (lv_at hl 1 rfl) ?_
          refine va_get (D := D) (ci := 4) (v := .int (zI (σ (14 + i) 1))) (C := RX2) (T := TX2) (N := 4) hx hb hts inX2 hown hK hP (14 + i) (wg_M (i := i) (by first | assumption | omega)) rfl 1 (by decide) k13 (fun _ h9 => h9) rfl dX2_isMetBy_49 ?_
          refine lv_iload hx hb dX2_isMetBy_52 (lv_at hl 5 rfl) ?_
          refine z_icmp_ne (tgt := 77) hx hb dX2_isMetBy_54 (by decide) (by omega) (by omega) (fun cd54 => ?_) (fun cd54 => ?_)
          · skip
            refine lv_iconst (v := zI 0) hx hb dX2_isMetBy_77 rfl ?_
            refine lv_istore (lv' := [(6, .int (zI (0))), (5, .int (zI (0))), (0, .ref (a (14 + i))), (1, .int (zI (c9))), (2, .int (zI (h0))), (3, .int (zI (c2))), (4, .int (zI (h2)))]) hx hb dX2_isMetBy_78 hl (by decide) rfl (fun ls hl => ?_)
            refine lv_iload hx hb dX2_isMetBy_80 (lv_at hl 1 rfl) ?_
            refine z_if_ne (tgt := 90) hx hb dX2_isMetBy_82 (by decide) (by decide) (fun cd82 => absurd cd82 (by decide)) (fun _ => ?_)
            refine lv_iload hx hb dX2_isMetBy_85 (lv_at hl 0 rfl) ?_
            refine z_if_eq (tgt := 94) hx hb dX2_isMetBy_87 (by decide) (by decide) (fun _ => ?_) (fun cd87 => absurd cd87 (by decide))
            refine lv_iconst (v := zI 0) hx hb dX2_isMetBy_94 rfl ?_
            exact W.zret (v := zI 0) (ty := .boolean) hx hb hr (by decide +kernel) (fun t9 ht hW => ⟨⟨_, (), rfl, Or.inr ⟨rfl, (by omega)⟩, trivial⟩, vF_R ht hS.1 hk0⟩) hS.2.2 dX2_isMetBy_95
          · skip
            refine lv_aload_n hx hb dX2_isMetBy_57 rfl (lv_at hl 1 rfl) ?_
            refine va_get (D := D) (ci := 4) (v := .int (zI (σ (14 + i) 2))) (C := RX2) (T := TX2) (N := 4) hx hb hts inX2 hown hK hP (14 + i) (wg_M (i := i) (by first | assumption | omega)) rfl 2 (by decide) k16 (fun _ h9 => h9) rfl dX2_isMetBy_58 ?_
            refine lv_iload_n hx hb dX2_isMetBy_61 rfl (lv_at hl 2 rfl) ?_
            refine z_icmp_ne (tgt := 77) hx hb dX2_isMetBy_62 (by decide) (by omega) (by omega) (fun cd62 => ?_) (fun cd62 => ?_)
            · skip
              refine lv_iconst (v := zI 0) hx hb dX2_isMetBy_77 rfl ?_
              refine lv_istore (lv' := [(6, .int (zI (0))), (5, .int (zI (0))), (0, .ref (a (14 + i))), (1, .int (zI (c9))), (2, .int (zI (h0))), (3, .int (zI (c2))), (4, .int (zI (h2)))]) hx hb dX2_isMetBy_78 hl (by decide) rfl (fun ls hl => ?_)
              refine lv_iload hx hb dX2_isMetBy_80 (lv_at hl 1 rfl) ?_
              refine z_if_ne (tgt := 90) hx hb dX2_isMetBy_82 (by decide) (by decide) (fun cd82 => absurd cd82 (by decide)) (fun _ => ?_)
              refine lv_iload hx hb dX2_isMetBy_85 (lv_at hl 0 rfl) ?_
              refine z_if_eq (tgt := 94) hx hb dX2_isMetBy_87 (by decide) (by decide) (fun _ => ?_) (fun cd87 => absurd cd87 (by decide))
              refine lv_iconst (v := zI 0) hx hb dX2_isMetBy_94 rfl ?_
              exact W.zret (v := zI 0) (ty := .boolean) hx hb hr (by decide +kernel) (fun t9 ht hW => ⟨⟨_, (), rfl, Or.inr ⟨rfl, (by omega)⟩, trivial⟩, vF_R ht hS.1 hk0⟩) hS.2.2 dX2_isMetBy_95
            · skip
              refine lv_aload_n hx hb dX2_isMetBy_65 rfl (lv_at hl 1 rfl) ?_
              refine va_get (D := D) (ci := 4) (v := .int (zI (σ (14 + i) 3))) (C := RX2) (T := TX2) (N := 4) hx hb hts inX2 hown hK hP (14 + i) (wg_M (i := i) (by first | assumption | omega)) rfl 3 (by decide) k19 (fun _ h9 => h9) rfl dX2_isMetBy_66 ?_
              refine lv_iload_n hx hb dX2_isMetBy_69 rfl (lv_at hl 3 rfl) ?_
              refine z_icmp_ne (tgt := 77) hx hb dX2_isMetBy_70 (by decide) (by omega) (by omega) (fun cd70 => ?_) (fun cd70 => ?_)
              · skip
                refine lv_iconst (v := zI 0) hx hb dX2_isMetBy_77 rfl ?_
                refine lv_istore (lv' := [(6, .int (zI (0))), (5, .int (zI (0))), (0, .ref (a (14 + i))), (1, .int (zI (c9))), (2, .int (zI (h0))), (3, .int (zI (c2))), (4, .int (zI (h2)))]) hx hb dX2_isMetBy_78 hl (by decide) rfl (fun ls hl => ?_)
                refine lv_iload hx hb dX2_isMetBy_80 (lv_at hl 1 rfl) ?_
                refine z_if_ne (tgt := 90) hx hb dX2_isMetBy_82 (by decide) (by decide) (fun cd82 => absurd cd82 (by decide)) (fun _ => ?_)
                refine lv_iload hx hb dX2_isMetBy_85 (lv_at hl 0 rfl) ?_
                refine z_if_eq (tgt := 94) hx hb dX2_isMetBy_87 (by decide) (by decide) (fun _ => ?_) (fun cd87 => absurd cd87 (by decide))
                refine lv_iconst (v := zI 0) hx hb dX2_isMetBy_94 rfl ?_
                exact W.zret (v := zI 0) (ty := .boolean) hx hb hr (by decide +kernel) (fun t9 ht hW => ⟨⟨_, (), rfl, Or.inr ⟨rfl, (by omega)⟩, trivial⟩, vF_R ht hS.1 hk0⟩) hS.2.2 dX2_isMetBy_95
              · skip
                refine lv_iconst (v := zI 1) hx hb dX2_isMetBy_73 rfl ?_
                refine lv_goto (tgt := 78) hx hb dX2_isMetBy_74 (by decide) ?_
                refine lv_istore (lv' := [(6, .int (zI (1))), (5, .int (zI (0))), (0, .ref (a (14 + i))), (1, .int (zI (c9))), (2, .int (zI (h0))), (3, .int (zI (c2))), (4, .int (zI (h2)))]) hx hb dX2_isMetBy_78 hl (by decide) rfl (fun ls hl => ?_)
                refine lv_iload hx hb dX2_isMetBy_80 (lv_at hl 1 rfl) ?_
                refine z_if_ne (tgt := 90) hx hb dX2_isMetBy_82 (by decide) (by decide) (fun cd82 => absurd cd82 (by decide)) (fun _ => ?_)
                refine lv_iload hx hb dX2_isMetBy_85 (lv_at hl 0 rfl) ?_
                refine z_if_eq (tgt := 94) hx hb dX2_isMetBy_87 (by decide) (by decide) (fun cd87 => absurd cd87 (by decide)) (fun _ => ?_)
                refine lv_iconst (v := zI 1) hx hb dX2_isMetBy_90 rfl ?_
                refine lv_goto (tgt := 95) hx hb dX2_isMetBy_91 (by decide) ?_
                exact W.zret (v := zI 1) (ty := .boolean) hx hb hr (by decide +kernel) (fun t9 ht hW => ⟨⟨_, (), rfl, Or.inl ⟨rfl, (by omega)⟩, trivial⟩, vF_R ht hS.1 hk0⟩) hS.2.2 dX2_isMetBy_95
      · skip
        refine lv_aload_n hx hb dX2_isMetBy_24 rfl (lv_at hl 0 rfl) ?_
        refine va_get (D := D) (ci := 4) (v := .int (zI (σ (14 + i) 3))) (C := RX2) (T := TX2) (N := 4) hx hb hts inX2 hown hK hP (14 + i) (wg_M (i := i) (by first | assumption | omega)) rfl 3 (by decide) k19 (fun _ h9 => h9) rfl dX2_isMetBy_25 ?_
        refine lv_iload hx hb dX2_isMetBy_28 (lv_at hl 4 rfl) ?_
        refine z_icmp_ne (tgt := 37) hx hb dX2_isMetBy_30 (by decide) (by omega) (by omega) (fun cd30 => ?_) (fun cd30 => ?_)
        · skip
          refine lv_iconst (v := zI 0) hx hb dX2_isMetBy_37 rfl ?_
          refine lv_istore (lv' := [(5, .int (zI (0))), (0, .ref (a (14 + i))), (1, .int (zI (c9))), (2, .int (zI (h0))), (3, .int (zI (c2))), (4, .int (zI (h2)))]) hx hb dX2_isMetBy_38 hl (by decide) rfl (fun ls hl => ?_)
          refine lv_aload_n hx hb dX2_isMetBy_40 rfl (lv_at hl 1 rfl) ?_
          refine va_get (D := D) (ci := 4) (v := .int (zI (σ (14 + i) 0))) (C := RX2) (T := TX2) (N := 4) hx hb hts inX2 hown hK hP (14 + i) (wg_M (i := i) (by first | assumption | omega)) rfl 0 (by decide) k7 (fun _ h9 => h9) rfl dX2_isMetBy_41 ?_
          refine lv_iload_n hx hb dX2_isMetBy_44 rfl (lv_at hl 4 rfl) ?_
          refine z_icmp_ne (tgt := 77) hx hb dX2_isMetBy_45 (by decide) (by omega) (by omega) (fun cd45 => ?_) (fun cd45 => ?_)
          · skip
            refine lv_iconst (v := zI 0) hx hb dX2_isMetBy_77 rfl ?_
            refine lv_istore (lv' := [(6, .int (zI (0))), (5, .int (zI (0))), (0, .ref (a (14 + i))), (1, .int (zI (c9))), (2, .int (zI (h0))), (3, .int (zI (c2))), (4, .int (zI (h2)))]) hx hb dX2_isMetBy_78 hl (by decide) rfl (fun ls hl => ?_)
            refine lv_iload hx hb dX2_isMetBy_80 (lv_at hl 1 rfl) ?_
            refine z_if_ne (tgt := 90) hx hb dX2_isMetBy_82 (by decide) (by decide) (fun cd82 => absurd cd82 (by decide)) (fun _ => ?_)
            refine lv_iload hx hb dX2_isMetBy_85 (lv_at hl 0 rfl) ?_
            refine z_if_eq (tgt := 94) hx hb dX2_isMetBy_87 (by decide) (by decide) (fun _ => ?_) (fun cd87 => absurd cd87 (by decide))
            refine lv_iconst (v := zI 0) hx hb dX2_isMetBy_94 rfl ?_
            exact W.zret (v := zI 0) (ty := .boolean) hx hb hr (by decide +kernel) (fun t9 ht hW => ⟨⟨_, (), rfl, Or.inr ⟨rfl, (by omega)⟩, trivial⟩, vF_R ht hS.1 hk0⟩) hS.2.2 dX2_isMetBy_95
          · skip
            refine lv_aload_n hx hb dX2_isMetBy_48 rfl (lv_at hl 1 rfl) ?_
            refine va_get (D := D) (ci := 4) (v := .int (zI (σ (14 + i) 1))) (C := RX2) (T := TX2) (N := 4) hx hb hts inX2 hown hK hP (14 + i) (wg_M (i := i) (by first | assumption | omega)) rfl 1 (by decide) k13 (fun _ h9 => h9) rfl dX2_isMetBy_49 ?_
            refine lv_iload hx hb dX2_isMetBy_52 (lv_at hl 5 rfl) ?_
            refine z_icmp_ne (tgt := 77) hx hb dX2_isMetBy_54 (by decide) (by omega) (by omega) (fun cd54 => ?_) (fun cd54 => ?_)
            · skip
              refine lv_iconst (v := zI 0) hx hb dX2_isMetBy_77 rfl ?_
              refine lv_istore (lv' := [(6, .int (zI (0))), (5, .int (zI (0))), (0, .ref (a (14 + i))), (1, .int (zI (c9))), (2, .int (zI (h0))), (3, .int (zI (c2))), (4, .int (zI (h2)))]) hx hb dX2_isMetBy_78 hl (by decide) rfl (fun ls hl => ?_)
              refine lv_iload hx hb dX2_isMetBy_80 (lv_at hl 1 rfl) ?_
              refine z_if_ne (tgt := 90) hx hb dX2_isMetBy_82 (by decide) (by decide) (fun cd82 => absurd cd82 (by decide)) (fun _ => ?_)
              refine lv_iload hx hb dX2_isMetBy_85 (lv_at hl 0 rfl) ?_
              refine z_if_eq (tgt := 94) hx hb dX2_isMetBy_87 (by decide) (by decide) (fun _ => ?_) (fun cd87 => absurd cd87 (by decide))
              refine lv_iconst (v := zI 0) hx hb dX2_isMetBy_94 rfl ?_
              exact W.zret (v := zI 0) (ty := .boolean) hx hb hr (by decide +kernel) (fun t9 ht hW => ⟨⟨_, (), rfl, Or.inr ⟨rfl, (by omega)⟩, trivial⟩, vF_R ht hS.1 hk0⟩) hS.2.2 dX2_isMetBy_95
            · skip
              refine lv_aload_n hx hb dX2_isMetBy_57 rfl (lv_at hl 1 rfl) ?_
              refine va_get (D := D) (ci := 4) (v := .int (zI (σ (14 + i) 2))) (C := RX2) (T := TX2) (N := 4) hx hb hts inX2 hown hK hP (14 + i) (wg_M (i := i) (by first | assumption | omega)) rfl 2 (by decide) k16 (fun _ h9 => h9) rfl dX2_isMetBy_58 ?_
              refine lv_iload_n hx hb dX2_isMetBy_61 rfl (lv_at hl 2 rfl) ?_
              refine z_icmp_ne (tgt := 77) hx hb dX2_isMetBy_62 (by decide) (by omega) (by omega) (fun cd62 => ?_) (fun cd62 => ?_)
              · skip
                refine lv_iconst (v := zI 0) hx hb dX2_isMetBy_77 rfl ?_
                refine lv_istore (lv' := [(6, .int (zI (0))), (5, .int (zI (0))), (0, .ref (a (14 + i))), (1, .int (zI (c9))), (2, .int (zI (h0))), (3, .int (zI (c2))), (4, .int (zI (h2)))]) hx hb dX2_isMetBy_78 hl (by decide) rfl (fun ls hl => ?_)
                refine lv_iload hx hb dX2_isMetBy_80 (lv_at hl 1 rfl) ?_
                refine z_if_ne (tgt := 90) hx hb dX2_isMetBy_82 (by decide) (by decide) (fun cd82 => absurd cd82 (by decide)) (fun _ => ?_)
                refine lv_iload hx hb dX2_isMetBy_85 (lv_at hl 0 rfl) ?_
                refine z_if_eq (tgt := 94) hx hb dX2_isMetBy_87 (by decide) (by decide) (fun _ => ?_) (fun cd87 => absurd cd87 (by decide))
                refine lv_iconst (v := zI 0) hx hb dX2_isMetBy_94 rfl ?_
                exact W.zret (v := zI 0) (ty := .boolean) hx hb hr (by decide +kernel) (fun t9 ht hW => ⟨⟨_, (), rfl, Or.inr ⟨rfl, (by omega)⟩, trivial⟩, vF_R ht hS.1 hk0⟩) hS.2.2 dX2_isMetBy_95
              · skip
                refine lv_aload_n hx hb dX2_isMetBy_65 rfl (lv_at hl 1 rfl) ?_
                refine va_get (D := D) (ci := 4) (v := .int (zI (σ (14 + i) 3))) (C := RX2) (T := TX2) (N := 4) hx hb hts inX2 hown hK hP (14 + i) (wg_M (i := i) (by first | assumption | omega)) rfl 3 (by decide) k19 (fun _ h9 => h9) rfl dX2_isMetBy_66 ?_
                refine lv_iload_n hx hb dX2_isMetBy_69 rfl (lv_at hl 3 rfl) ?_
                refine z_icmp_ne (tgt := 77) hx hb dX2_isMetBy_70 (by decide) (by omega) (by omega) (fun cd70 => ?_) (fun cd70 => ?_)
                · skip
                  refine lv_iconst (v := zI 0) hx hb dX2_isMetBy_77 rfl ?_
                  refine lv_istore (lv' := [(6, .int (zI (0))), (5, .int (zI (0))), (0, .ref (a (14 + i))), (1, .int (zI (c9))), (2, .int (zI (h0))), (3, .int (zI (c2))), (4, .int (zI (h2)))]) hx hb dX2_isMetBy_78 hl (by decide) rfl (fun ls hl => ?_)
                  refine lv_iload hx hb dX2_isMetBy_80 (lv_at hl 1 rfl) ?_
                  refine z_if_ne (tgt := 90) hx hb dX2_isMetBy_82 (by decide) (by decide) (fun cd82 => absurd cd82 (by decide)) (fun _ => ?_)
                  refine lv_iload hx hb dX2_isMetBy_85 (lv_at hl 0 rfl) ?_
                  refine z_if_eq (tgt := 94) hx hb dX2_isMetBy_87 (by decide) (by decide) (fun _ => ?_) (fun cd87 => absurd cd87 (by decide))
                  refine lv_iconst (v := zI 0) hx hb dX2_isMetBy_94 rfl ?_
                  exact W.zret (v := zI 0) (ty := .boolean) hx hb hr (by decide +kernel) (fun t9 ht hW => ⟨⟨_, (), rfl, Or.inr ⟨rfl, (by omega)⟩, trivial⟩, vF_R ht hS.1 hk0⟩) hS.2.2 dX2_isMetBy_95
                · skip
                  refine lv_iconst (v := zI 1) hx hb dX2_isMetBy_73 rfl ?_
                  refine lv_goto (tgt := 78) hx hb dX2_isMetBy_74 (by decide) ?_
                  refine lv_istore (lv' := [(6, .int (zI (1))), (5, .int (zI (0))), (0, .ref (a (14 + i))), (1, .int (zI (c9))), (2, .int (zI (h0))), (3, .int (zI (c2))), (4, .int (zI (h2)))]) hx hb dX2_isMetBy_78 hl (by decide) rfl (fun ls hl => ?_)
                  refine lv_iload hx hb dX2_isMetBy_80 (lv_at hl 1 rfl) ?_
                  refine z_if_ne (tgt := 90) hx hb dX2_isMetBy_82 (by decide) (by decide) (fun cd82 => absurd cd82 (by decide)) (fun _ => ?_)
                  refine lv_iload hx hb dX2_isMetBy_85 (lv_at hl 0 rfl) ?_
                  refine z_if_eq (tgt := 94) hx hb dX2_isMetBy_87 (by decide) (by decide) (fun cd87 => absurd cd87 (by decide)) (fun _ => ?_)
                  refine lv_iconst (v := zI 1) hx hb dX2_isMetBy_90 rfl ?_
                  refine lv_goto (tgt := 95) hx hb dX2_isMetBy_91 (by decide) ?_
                  exact W.zret (v := zI 1) (ty := .boolean) hx hb hr (by decide +kernel) (fun t9 ht hW => ⟨⟨_, (), rfl, Or.inl ⟨rfl, (by omega)⟩, trivial⟩, vF_R ht hS.1 hk0⟩) hS.2.2 dX2_isMetBy_95
        · skip
          refine lv_iconst (v := zI 1) hx hb dX2_isMetBy_33 rfl ?_
          refine lv_goto (tgt := 38) hx hb dX2_isMetBy_34 (by decide) ?_
          refine lv_istore (lv' := [(5, .int (zI (1))), (0, .ref (a (14 + i))), (1, .int (zI (c9))), (2, .int (zI (h0))), (3, .int (zI (c2))), (4, .int (zI (h2)))]) hx hb dX2_isMetBy_38 hl (by decide) rfl (fun ls hl => ?_)
          refine lv_aload_n hx hb dX2_isMetBy_40 rfl (lv_at hl 1 rfl) ?_
          refine va_get (D := D) (ci := 4) (v := .int (zI (σ (14 + i) 0))) (C := RX2) (T := TX2) (N := 4) hx hb hts inX2 hown hK hP (14 + i) (wg_M (i := i) (by first | assumption | omega)) rfl 0 (by decide) k7 (fun _ h9 => h9) rfl dX2_isMetBy_41 ?_
          refine lv_iload_n hx hb dX2_isMetBy_44 rfl (lv_at hl 4 rfl) ?_
          refine z_icmp_ne (tgt := 77) hx hb dX2_isMetBy_45 (by decide) (by omega) (by omega) (fun cd45 => ?_) (fun cd45 => ?_)
          · skip
            refine lv_iconst (v := zI 0) hx hb dX2_isMetBy_77 rfl ?_
            refine lv_istore (lv' := [(6, .int (zI (0))), (5, .int (zI (1))), (0, .ref (a (14 + i))), (1, .int (zI (c9))), (2, .int (zI (h0))), (3, .int (zI (c2))), (4, .int (zI (h2)))]) hx hb dX2_isMetBy_78 hl (by decide) rfl (fun ls hl => ?_)
            refine lv_iload hx hb dX2_isMetBy_80 (lv_at hl 1 rfl) ?_
            refine z_if_ne (tgt := 90) hx hb dX2_isMetBy_82 (by decide) (by decide) (fun _ => ?_) (fun cd82 => absurd cd82 (by decide))
            refine lv_iconst (v := zI 1) hx hb dX2_isMetBy_90 rfl ?_
            refine lv_goto (tgt := 95) hx hb dX2_isMetBy_91 (by decide) ?_
            exact W.zret (v := zI 1) (ty := .boolean) hx hb hr (by decide +kernel) (fun t9 ht hW => ⟨⟨_, (), rfl, Or.inl ⟨rfl, (by omega)⟩, trivial⟩, vF_R ht hS.1 hk0⟩) hS.2.2 dX2_isMetBy_95
          · skip
            refine lv_aload_n hx hb dX2_isMetBy_48 rfl (lv_at hl 1 rfl) ?_
            refine va_get (D := D) (ci := 4) (v := .int (zI (σ (14 + i) 1))) (C := RX2) (T := TX2) (N := 4) hx hb hts inX2 hown hK hP (14 + i) (wg_M (i := i) (by first | assumption | omega)) rfl 1 (by decide) k13 (fun _ h9 => h9) rfl dX2_isMetBy_49 ?_
            refine lv_iload hx hb dX2_isMetBy_52 (lv_at hl 5 rfl) ?_
            refine z_icmp_ne (tgt := 77) hx hb dX2_isMetBy_54 (by decide) (by omega) (by omega) (fun cd54 => ?_) (fun cd54 => ?_)
            · skip
              refine lv_iconst (v := zI 0) hx hb dX2_isMetBy_77 rfl ?_
              refine lv_istore (lv' := [(6, .int (zI (0))), (5, .int (zI (1))), (0, .ref (a (14 + i))), (1, .int (zI (c9))), (2, .int (zI (h0))), (3, .int (zI (c2))), (4, .int (zI (h2)))]) hx hb dX2_isMetBy_78 hl (by decide) rfl (fun ls hl => ?_)
              refine lv_iload hx hb dX2_isMetBy_80 (lv_at hl 1 rfl) ?_
              refine z_if_ne (tgt := 90) hx hb dX2_isMetBy_82 (by decide) (by decide) (fun _ => ?_) (fun cd82 => absurd cd82 (by decide))
              refine lv_iconst (v := zI 1) hx hb dX2_isMetBy_90 rfl ?_
              refine lv_goto (tgt := 95) hx hb dX2_isMetBy_91 (by decide) ?_
              exact W.zret (v := zI 1) (ty := .boolean) hx hb hr (by decide +kernel) (fun t9 ht hW => ⟨⟨_, (), rfl, Or.inl ⟨rfl, (by omega)⟩, trivial⟩, vF_R ht hS.1 hk0⟩) hS.2.2 dX2_isMetBy_95
            · skip
              refine lv_aload_n hx hb dX2_isMetBy_57 rfl (lv_at hl 1 rfl) ?_
              refine va_get (D := D) (ci := 4) (v := .int (zI (σ (14 + i) 2))) (C := RX2) (T := TX2) (N := 4) hx hb hts inX2 hown hK hP (14 + i) (wg_M (i := i) (by first | assumption | omega)) rfl 2 (by decide) k16 (fun _ h9 => h9) rfl dX2_isMetBy_58 ?_
              refine lv_iload_n hx hb dX2_isMetBy_61 rfl (lv_at hl 2 rfl) ?_
              refine z_icmp_ne (tgt := 77) hx hb dX2_isMetBy_62 (by decide) (by omega) (by omega) (fun cd62 => ?_) (fun cd62 => ?_)
              · skip
                refine lv_iconst (v := zI 0) hx hb dX2_isMetBy_77 rfl ?_
                refine lv_istore (lv' := [(6, .int (zI (0))), (5, .int (zI (1))), (0, .ref (a (14 + i))), (1, .int (zI (c9))), (2, .int (zI (h0))), (3, .int (zI (c2))), (4, .int (zI (h2)))]) hx hb dX2_isMetBy_78 hl (by decide) rfl (fun ls hl => ?_)
                refine lv_iload hx hb dX2_isMetBy_80 (lv_at hl 1 rfl) ?_
                refine z_if_ne (tgt := 90) hx hb dX2_isMetBy_82 (by decide) (by decide) (fun _ => ?_) (fun cd82 => absurd cd82 (by decide))
                refine lv_iconst (v := zI 1) hx hb dX2_isMetBy_90 rfl ?_
                refine lv_goto (tgt := 95) hx hb dX2_isMetBy_91 (by decide) ?_
                exact W.zret (v := zI 1) (ty := .boolean) hx hb hr (by decide +kernel) (fun t9 ht hW => ⟨⟨_, (), rfl, Or.inl ⟨rfl, (by omega)⟩, trivial⟩, vF_R ht hS.1 hk0⟩) hS.2.2 dX2_isMetBy_95
              · skip
                refine lv_aload_n hx hb dX2_isMetBy_65 rfl (lv_at hl 1 rfl) ?_
                refine va_get (D := D) (ci := 4) (v := .int (zI (σ (14 + i) 3))) (C := RX2) (T := TX2) (N := 4) hx hb hts inX2 hown hK hP (14 + i) (wg_M (i := i) (by first | assumption | omega)) rfl 3 (by decide) k19 (fun _ h9 => h9) rfl dX2_isMetBy_66 ?_
                refine lv_iload_n hx hb dX2_isMetBy_69 rfl (lv_at hl 3 rfl) ?_
                refine z_icmp_ne (tgt := 77) hx hb dX2_isMetBy_70 (by decide) (by omega) (by omega) (fun cd70 => ?_) (fun cd70 => ?_)
                · skip
                  refine lv_iconst (v := zI 0) hx hb dX2_isMetBy_77 rfl ?_
                  refine lv_istore (lv' := [(6, .int (zI (0))), (5, .int (zI (1))), (0, .ref (a (14 + i))), (1, .int (zI (c9))), (2, .int (zI (h0))), (3, .int (zI (c2))), (4, .int (zI (h2)))]) hx hb dX2_isMetBy_78 hl (by decide) rfl (fun ls hl => ?_)
                  refine lv_iload hx hb dX2_isMetBy_80 (lv_at hl 1 rfl) ?_
                  refine z_if_ne (tgt := 90) hx hb dX2_isMetBy_82 (by decide) (by decide) (fun _ => ?_) (fun cd82 => absurd cd82 (by decide))
                  refine lv_iconst (v := zI 1) hx hb dX2_isMetBy_90 rfl ?_
                  refine lv_goto (tgt := 95) hx hb dX2_isMetBy_91 (by decide) ?_
                  exact W.zret (v := zI 1) (ty := .boolean) hx hb hr (by decide +kernel) (fun t9 ht hW => ⟨⟨_, (), rfl, Or.inl ⟨rfl, (by omega)⟩, trivial⟩, vF_R ht hS.1 hk0⟩) hS.2.2 dX2_isMetBy_95
                · skip
                  refine lv_iconst (v := zI 1) hx hb dX2_isMetBy_73 rfl ?_
                  refine lv_goto (tgt := 78) hx hb dX2_isMetBy_74 (by decide) ?_
                  refine lv_istore (lv' := [(6, .int (zI (1))), (5, .int (zI (1))), (0, .ref (a (14 + i))), (1, .int (zI (c9))), (2, .int (zI (h0))), (3, .int (zI (c2))), (4, .int (zI (h2)))]) hx hb dX2_isMetBy_78 hl (by decide) rfl (fun ls hl => ?_)
                  refine lv_iload hx hb dX2_isMetBy_80 (lv_at hl 1 rfl) ?_
                  refine z_if_ne (tgt := 90) hx hb dX2_isMetBy_82 (by decide) (by decide) (fun _ => ?_) (fun cd82 => absurd cd82 (by decide))
                  refine lv_iconst (v := zI 1) hx hb dX2_isMetBy_90 rfl ?_
                  refine lv_goto (tgt := 95) hx hb dX2_isMetBy_91 (by decide) ?_
                  exact W.zret (v := zI 1) (ty := .boolean) hx hb hr (by decide +kernel) (fun t9 ht hW => ⟨⟨_, (), rfl, Or.inl ⟨rfl, (by omega)⟩, trivial⟩, vF_R ht hS.1 hk0⟩) hS.2.2 dX2_isMetBy_95
