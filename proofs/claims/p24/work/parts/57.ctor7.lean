/-! SLEWFREE'S CONSTRUCTOR -/
def σI : Nat → Nat → Int := fun k j => if k = 1 ∧ j = 1 then 31 else if j = 0 ∧ 3 ≤ k ∧ k < 6 then (k : Int) - 3 else if k = 20 ∧ j = 3 then 1 else 0
theorem sI_0 {k : Nat} (h : k ≠ 1) (h2 : ¬ (3 ≤ k ∧ k < 6)) (h3 : k ≠ 20) : σI k = fun _ => 0 := funext fun j => by
  unfold σI
  rw [if_neg (by omega), if_neg (by omega), if_neg (by omega)]
theorem sI_C {j : Nat} (h : j < 3) : σI (3 + j) = fun i => if i = 0 then (j : Int) else 0 := funext fun i => by
  unfold σI
  rw [if_neg (by omega)]
  by_cases e : i = 0
  · rw [if_pos (by omega), if_pos e]
    omega
  · rw [if_neg (by omega), if_neg (by omega), if_neg e]
theorem lN_blind {D : va_G} {A : Nat → Prop} {ws : va_W} {av : List Value} {sz : Nat} {C : String} {w : Cond} (hw : w.onTables = true) : FrameBlind (va_Pc av (fun U => U.heap.size = sz ∧ va_P D vwCl ws U.heap ∧ va_D A ws ∧ va_K D vwCl [] U ∧ va_AO C U ∧ va_Nw w U)) := fun v U g mk h => ⟨h.1, h.2.1, h.2.2.1, h.2.2.2.1, va_K.moved (u := U) (U := U.calling g mk v) (Vm.Alike.refl U.vm) h.2.2.2.2.1, va_AO.moved (u := U) (U := U.calling g mk v) (Vm.Alike.refl U.vm) h.2.2.2.2.2.1, va_Nw.same (u := U) (U := U.calling g mk v) hw rfl h.2.2.2.2.2.2⟩
set_option maxHeartbeats 1000000 in
set_option maxRecDepth 100000 in
theorem c_X7_init (l : Launch) (D : va_G) (A : Nat → Prop) (sz : Nat) (hA : ∀ y : Nat, sz ≤ y → A y) (x0 : Nat) : Met l yX7_init wsX7_init ({ frames := 9, cells := 61, slots := 436, locals := 300 }) (va_Pc [.ref x0] (fun U => U.heap.size = sz ∧ va_P D vwCl [(x0, .inr (9, [.null, .null, .null, .null, .null, .int (zI 0), .int (zI 0), .int (zI 0), .int (zI 0)]))] U.heap ∧ va_D A [(x0, .inr (9, [.null, .null, .null, .null, .null, .int (zI 0), .int (zI 0), .int (zI 0), .int (zI 0)]))] ∧ va_K D vwCl [] U ∧ va_AO RX0 U ∧ va_AO RX6 U ∧ va_AO RX2 U ∧ va_AO RX3 U ∧ va_Nw (.methodLinkNest RX7 9 yX5_init RX7) U ∧ va_Nw (.methodLinkNest RX7 31 yX6_init RX7) U ∧ va_Nw (.methodLinkNest RX7 38 yX2_init RX7) U ∧ va_Nw (.methodLinkNest RX1 21 yX3_init RX7) U)) (va_Qv (fun (u : (Nat → Nat) × (Nat → ClassId)) => u.1 0 = x0) (fun u t => va_P D vwCl (wld u.2 u.1 (fun i => i) σI) t.heap ∧ va_D A (wld u.2 u.1 (fun i => i) σI) ∧ va_K D vwCl (wty u.2) t) A) 61 436 A := by
  refine Met.ofW (cc := cX7_init) (maxL := 2) (ret := none) (by decide) rfl ?_
  intro p e s m args below meth c s₁ B hml hpc0
  obtain ⟨rfl, hsz, hP, hD, hK, hOX0, hOX6, hOX2, hOX3, hN5, hN6, hN2, hN3⟩ := hpc0
  have hx := B.exec
  have hb := B.bytes
  have hr := B.returns
  have hts := atoms_spec (ws := wsX7_init) B.pre
  have hown : s.vm.findClass RX7 = some m.cls := findClass_of_methodNamed B.named
  have hlocks := B.notSynchronized
  have hin : meth.name = "<init>" := (name_of_methodNamed B.named B.method).1
  subst hsz
  have hS : va_S A s.heap s.heap [] := va_S.rf
  have hl := lv_entry ([.ref (x0)]) (n := 2) (Nat.le_of_ble_eq_true rfl)
  rw [lg_entry_eq]
  generalize (lg_sl ([.ref (x0)]) ++ List.replicate (2 - (lg_sl ([.ref (x0)])).length) Slot.unset).toArray = ls at hl ⊢
  have hl : lv_has ls 2 [(0, .ref (x0))] := hl
  have inX0 : ∀ w ∈ u_ws RX0 TX0 12, w ∈ wsX7_init := by decide +kernel
  have inX1 : ∀ w ∈ u_ws RX1 TX1 4, w ∈ wsX7_init := by decide +kernel
  have inX2 : ∀ w ∈ u_ws RX2 TX2 4, w ∈ wsX7_init := by decide +kernel
  have inX5 : ∀ w ∈ u_ws RX5 TX5 7, w ∈ wsX7_init := by decide +kernel
  have inX6 : ∀ w ∈ u_ws RX6 TX6 5, w ∈ wsX7_init := by decide +kernel
  have inX7 : ∀ w ∈ u_ws RX7 TX7 9, w ∈ wsX7_init := by decide +kernel
  obtain ⟨a0, ha0⟩ : ∃ z : Nat → Nat, z = fun _ => x0 := ⟨_, rfl⟩
  obtain ⟨E0, hE0⟩ : ∃ z : Nat → va_E, z = fun _ => .inr (9, [.null, .null, .null, .null, .null, .int (zI 0), .int (zI 0), .int (zI 0), .int (zI 0)]) := ⟨_, rfl⟩
  have eW : [((x0, .inr (9, [.null, .null, .null, .null, .null, .int (zI 0), .int (zI 0), .int (zI 0), .int (zI 0)])) : Nat × va_E)] = pw 1 a0 E0 := by rw [ha0, hE0]; rfl
  rw [eW] at hP hD
  have Fsite_0 : E0 0 = .inr (9, [.null, .null, .null, .null, .null, .int (zI 0), .int (zI 0), .int (zI 0), .int (zI 0)]) := by rw [hE0]
  have Gsite_0 : a0 0 = x0 := by rw [ha0]
  refine lv_aload_n hx hb dX7_init_0 rfl (lv_at hl 0 rfl) ?_
  refine W.objInit hx hb hown (hts (.methodLink RX7 1 objectInit) (by decide +kernel)) (hts (.instanceMethod objectInit) (by decide +kernel)) (hts (.code objectInit ⟨#[0xb1]⟩ 1 none) (by decide +kernel)) rfl (by rw [hml]; exact hl.1) rfl dX7_init_1 (Nat.le_of_ble_eq_true rfl) (Nat.le_of_ble_eq_true rfl) ?_
  refine W.eq (g2 := F0 m 4 ls []) rfl ?_
  refine lv_aload_n hx hb dX7_init_4 rfl (lv_at hl 0 rfl) ?_
  refine w_new (ci := 7) (fs := [.int (zI 0), .int (zI 0), .int (zI 0), .int (zI 0), .int (zI 0), .int (zI 0), .int (zI 0)]) (C := RX5) (T := TX5) (N := 7) hx hb hts inX5 tyX5 tyX5_ok hown (hts (.classLink RX7 7 RX5) (by decide +kernel)) (hts (.instantiable RX5 7) (by decide +kernel)) (hts (.initialized RX5) (by decide +kernel)) hK hP hD hS hA rfl (fun j hj => by rcases (show j = 0 ∨ j = 1 ∨ j = 2 ∨ j = 3 ∨ j = 4 ∨ j = 5 ∨ j = 6 by omega) with rfl | rfl | rfl | rfl | rfl | rfl | rfl <;> rfl) (show 0 + 1 ≤ 61 by omega) (show 0 + 7 ≤ 436 by omega) dX7_init_5 (fun q5 H hxq hsz1 ho1 hP hD hS1 => ?_)
  have hS := hS1
  rw [pw_app] at hP hD
  obtain ⟨a5, ha5⟩ : ∃ z : Nat → Nat, z = upN a0 (1) q5 := ⟨_, rfl⟩
  obtain ⟨E5, hE5⟩ : ∃ z : Nat → va_E, z = upN E0 (1) (.inr (7, [.int (zI 0), .int (zI 0), .int (zI 0), .int (zI 0), .int (zI 0), .int (zI 0), .int (zI 0)])) := ⟨_, rfl⟩
  rw [← ha5, ← hE5] at hP hD
  have Fsite_E5 : E5 0 = .inr (9, [.null, .null, .null, .null, .null, .int (zI 0), .int (zI 0), .int (zI 0), .int (zI 0)]) := by have h9 := congrFun hE5 0; rw [upN_n (by omega)] at h9; exact h9.trans Fsite_0
  have Gsite_a5 : a5 0 = x0 := by have h9 := congrFun ha5 0; rw [upN_n (by omega)] at h9; exact h9.trans Gsite_0
  have Fwea_E5 : E5 (1) = .inr (7, [.int (zI 0), .int (zI 0), .int (zI 0), .int (zI 0), .int (zI 0), .int (zI 0), .int (zI 0)]) := by rw [hE5]; exact upN_s _ _ _
  have Gwea_a5 : a5 (1) = q5 := by rw [ha5]; exact upN_s _ _ _
  refine lv_dup hx hb dX7_init_8 rfl ?_
  have twea_9 : (pw (1 + 1) a5 E5)[(1)]? = some ((q5, .inr (7, [.int (zI 0), .int (zI 0), .int (zI 0), .int (zI 0), .int (zI 0), .int (zI 0), .int (zI 0)])) : Nat × va_E) := by rw [pw_get (by omega), Gwea_a5, Fwea_E5]
  refine va_callv (va_runIN (As := []) (rest := [.ref (q5), .ref (x0)]) ⟨hx, hb, hml, hown, hts⟩ (c_X5_init l D A H.size (fun y h => hA y (Nat.le_trans hS.1 h)) _ q5 (1) twea_9) ⟨va_cnB 0 hts gX7_init_X5_init_n9 rfl rfl rfl hN5 (hts (.initialized RX5) (by decide +kernel)) (by decide +kernel) ⟨Nat.le_of_ble_eq_true rfl, Nat.le_of_ble_eq_true rfl⟩, rfl, hts (.instanceMethod yX5_init) (by decide +kernel)⟩ ⟨nW_blind, fun U hU hW => ⟨rfl, by rw [hU], nW_mk hP hD hK hU hW⟩⟩ rfl rfl hl.1 rfl (lv_room (Nat.le_of_ble_eq_true rfl)) dX7_init_9 ⟨(show 0 + 1 + 0 ≤ 61 by omega), (show 0 + 7 + 0 ≤ 436 by omega)⟩) hS (fun _ _ h => h) (fun _ h => h) (fun u9 t9 H locs ht hvm hw hB hz hk hS1 => ?_)
  obtain ⟨hP9, hD9⟩ := hB
  rw [ht] at hP9
  have hP := hP9
  have hD := hD9
  have hP : va_P D vwCl ((pw (1 + 1) a5 E5).set (1) (q5, .inr (7, [.int (zI 0), .int (zI 31), .int (zI 0), .int (zI 0), .int (zI 0), .int (zI 0), .int (zI 0)]))) H := hP
  have hD : va_D A ((pw (1 + 1) a5 E5).set (1) (q5, .inr (7, [.int (zI 0), .int (zI 31), .int (zI 0), .int (zI 0), .int (zI 0), .int (zI 0), .int (zI 0)]))) := hD
  rw [pw_set Gwea_a5 (by omega)] at hP hD
  obtain ⟨E9, hE9⟩ : ∃ z : Nat → va_E, z = upN E5 (1) (.inr (7, [.int (zI 0), .int (zI 31), .int (zI 0), .int (zI 0), .int (zI 0), .int (zI 0), .int (zI 0)])) := ⟨_, rfl⟩
  rw [← hE9] at hP hD
  have Fsite_E9 : E9 0 = .inr (9, [.null, .null, .null, .null, .null, .int (zI 0), .int (zI 0), .int (zI 0), .int (zI 0)]) := by have h9 := congrFun hE9 0; rw [upN_n (by omega)] at h9; exact h9.trans Fsite_E5
  have Fwea_E9 : E9 (1) = .inr (7, [.int (zI 0), .int (zI 31), .int (zI 0), .int (zI 0), .int (zI 0), .int (zI 0), .int (zI 0)]) := by rw [hE9]; exact upN_s _ _ _
  have hS := hS1
  have tsite_12 : (pw (1 + 1) a5 E9)[0]? = some ((x0, .inr (9, [.null, .null, .null, .null, .null, .int (zI 0), .int (zI 0), .int (zI 0), .int (zI 0)])) : Nat × va_E) := by rw [pw_get (by omega), Gsite_a5, Fsite_E9]
  refine va_putF (D := D) (ci := 9) (v := .ref q5) (ty := (.object "Slewfree$Weather")) (C := RX7) (T := TX7) (N := 9) hx hb hts inX7 tyX7 tyX7_ok nmX7 hown hK hP hD hS 0 tsite_12 rfl 0 (by decide) (hts (.fieldLink RX7 10 "Slewfree" "weather" "LSlewfree$Weather;") (by decide +kernel)) (fun _ h9 => h9) rfl hin rfl (by decide +kernel) rfl rfl (Nat.le_of_ble_eq_true rfl) dX7_init_12 (fun H locs hP hD hS => ?_)
  have hP : va_P D vwCl ((pw (1 + 1) a5 E9).set 0 (x0, .inr (9, [.ref q5, .null, .null, .null, .null, .int (zI 0), .int (zI 0), .int (zI 0), .int (zI 0)]))) H := hP
  have hD : va_D A ((pw (1 + 1) a5 E9).set 0 (x0, .inr (9, [.ref q5, .null, .null, .null, .null, .int (zI 0), .int (zI 0), .int (zI 0), .int (zI 0)]))) := hD
  rw [pw_set Gsite_a5 (by omega)] at hP hD
  obtain ⟨E12, hE12⟩ : ∃ z : Nat → va_E, z = upN E9 0 (.inr (9, [.ref q5, .null, .null, .null, .null, .int (zI 0), .int (zI 0), .int (zI 0), .int (zI 0)])) := ⟨_, rfl⟩
  rw [← hE12] at hP hD
  have Fwea_E12 : E12 (1) = .inr (7, [.int (zI 0), .int (zI 31), .int (zI 0), .int (zI 0), .int (zI 0), .int (zI 0), .int (zI 0)]) := by have h9 := congrFun hE12 (1); rw [upN_n (by omega)] at h9; exact h9.trans Fwea_E9
  have Fsite_E12 : E12 0 = .inr (9, [.ref q5, .null, .null, .null, .null, .int (zI 0), .int (zI 0), .int (zI 0), .int (zI 0)]) := by rw [hE12]; exact upN_s _ _ _
  refine lv_aload_n hx hb dX7_init_15 rfl (lv_at hl 0 rfl) ?_
  refine lv_iconst (v := zI 3) hx hb dX7_init_16 rfl ?_
  refine va_newq (n := zI 3) (N' := 3) hx hb hown (hts (.classLink RX7 16 RX0) (by decide +kernel)) hOX0 hK hP hD hS hA (by decide) (by decide) (by decide) (show 0 + 1 + 0 + 1 ≤ 61 by omega) (show 0 + 7 + 0 + 3 ≤ 436 by omega) dX7_init_17 (fun q17 y17 H hK hP hD hS => ?_)
  have hK : va_K D vwCl [(y17, .object "Slewfree$Crane")] s := hK
  rw [pw_app] at hP hD
  obtain ⟨a17, ha17⟩ : ∃ z : Nat → Nat, z = upN a5 (1 + 1) q17 := ⟨_, rfl⟩
  obtain ⟨E17, hE17⟩ : ∃ z : Nat → va_E, z = upN E12 (1 + 1) (.inl (y17, 3, .inr (.inr (.inr (.inr (fun _ => none)))))) := ⟨_, rfl⟩
  rw [← ha17, ← hE17] at hP hD
  have Fwea_E17 : E17 (1) = .inr (7, [.int (zI 0), .int (zI 31), .int (zI 0), .int (zI 0), .int (zI 0), .int (zI 0), .int (zI 0)]) := by have h9 := congrFun hE17 (1); rw [upN_n (by omega)] at h9; exact h9.trans Fwea_E12
  have Fsite_E17 : E17 0 = .inr (9, [.ref q5, .null, .null, .null, .null, .int (zI 0), .int (zI 0), .int (zI 0), .int (zI 0)]) := by have h9 := congrFun hE17 0; rw [upN_n (by omega)] at h9; exact h9.trans Fsite_E12
  have Gsite_a17 : a17 0 = x0 := by have h9 := congrFun ha17 0; rw [upN_n (by omega)] at h9; exact h9.trans Gsite_a5
  have Gwea_a17 : a17 (1) = q5 := by have h9 := congrFun ha17 (1); rw [upN_n (by omega)] at h9; exact h9.trans Gwea_a5
  have Fcra_E17 : E17 (1 + 1) = .inl (y17, 3, .inr (.inr (.inr (.inr (fun _ => none))))) := by rw [hE17]; exact upN_s _ _ _
  have Gcra_a17 : a17 (1 + 1) = q17 := by rw [ha17]; exact upN_s _ _ _
  have tsite_20 : (pw (1 + 1 + 1) a17 E17)[0]? = some ((x0, .inr (9, [.ref q5, .null, .null, .null, .null, .int (zI 0), .int (zI 0), .int (zI 0), .int (zI 0)])) : Nat × va_E) := by rw [pw_get (by omega), Gsite_a17, Fsite_E17]
  refine va_putF (D := D) (ci := 9) (v := .ref q17) (ty := (.array (.object "Slewfree$Crane"))) (C := RX7) (T := TX7) (N := 9) hx hb hts inX7 tyX7 tyX7_ok nmX7 hown hK hP hD hS 0 tsite_20 rfl 1 (by decide) (hts (.fieldLink RX7 18 "Slewfree" "cranes" "[LSlewfree$Crane;") (by decide +kernel)) (fun _ h9 => h9) rfl hin rfl (by decide +kernel) rfl rfl (Nat.le_of_ble_eq_true rfl) dX7_init_20 (fun H locs hP hD hS => ?_)
  have hP : va_P D vwCl ((pw (1 + 1 + 1) a17 E17).set 0 (x0, .inr (9, [.ref q5, .ref q17, .null, .null, .null, .int (zI 0), .int (zI 0), .int (zI 0), .int (zI 0)]))) H := hP
  have hD : va_D A ((pw (1 + 1 + 1) a17 E17).set 0 (x0, .inr (9, [.ref q5, .ref q17, .null, .null, .null, .int (zI 0), .int (zI 0), .int (zI 0), .int (zI 0)]))) := hD
  rw [pw_set Gsite_a17 (by omega)] at hP hD
  obtain ⟨E20, hE20⟩ : ∃ z : Nat → va_E, z = upN E17 0 (.inr (9, [.ref q5, .ref q17, .null, .null, .null, .int (zI 0), .int (zI 0), .int (zI 0), .int (zI 0)])) := ⟨_, rfl⟩
  rw [← hE20] at hP hD
  have Fwea_E20 : E20 (1) = .inr (7, [.int (zI 0), .int (zI 31), .int (zI 0), .int (zI 0), .int (zI 0), .int (zI 0), .int (zI 0)]) := by have h9 := congrFun hE20 (1); rw [upN_n (by omega)] at h9; exact h9.trans Fwea_E17
  have Fcra_E20 : E20 (1 + 1) = .inl (y17, 3, .inr (.inr (.inr (.inr (fun _ => none))))) := by have h9 := congrFun hE20 (1 + 1); rw [upN_n (by omega)] at h9; exact h9.trans Fcra_E17
  have Fsite_E20 : E20 0 = .inr (9, [.ref q5, .ref q17, .null, .null, .null, .int (zI 0), .int (zI 0), .int (zI 0), .int (zI 0)]) := by rw [hE20]; exact upN_s _ _ _
  refine lv_iconst (v := zI 0) hx hb dX7_init_23 rfl ?_
  refine lv_istore_n (lv' := [(1, .int (zI 0)), (0, .ref (x0))]) hx hb dX7_init_24 rfl hl (by decide) rfl (fun ls hl => ?_)
  have loop25 : ∀ (d : Nat) (i : Nat) (a : Nat → Nat) (E : Nat → va_E) (H : Heap) (locs : List Loc) (ls : Array Slot), 3 - i < d → i ≤ 3 → (E (1) = .inr (7, [.int (zI 0), .int (zI 31), .int (zI 0), .int (zI 0), .int (zI 0), .int (zI 0), .int (zI 0)])) → (E 0 = .inr (9, [.ref q5, .ref q17, .null, .null, .null, .int (zI 0), .int (zI 0), .int (zI 0), .int (zI 0)])) → (a 0 = x0) → (a (1) = q5) → (a (1 + 1) = q17) → (∃ f : Nat → Option Nat, E 2 = .inl (y17, 3, .inr (.inr (.inr (.inr f)))) ∧ ∀ j, j < i → f j = some (a (3 + j))) → (∀ j, j < i → E (3 + j) = .inr (2, [.int (zI (j : Int)), .int (zI 0), .int (zI 0), .int (zI 0), .int (zI 0), .int (zI 0), .int (zI 0), .int (zI 0), .int (zI 0), .int (zI 0), .int (zI 0), .int (zI 0)])) → va_P D vwCl (pw (3 + i) a E) H → va_D A (pw (3 + i) a E) → va_S A s.heap H locs → lv_has ls 2 [(0, .ref (x0)), (1, .int (zI ((i : Int))))] → W p l e (headSpec wsX7_init ({ frames := 9, cells := 61, slots := 436, locals := 300 })).room s m ([.ref (x0)] : List Value).toArray below meth c H locs (0 + 1 + 0 + 1 + i) (0 + 7 + 0 + 3 + i * 12) (MQ below (va_Qv (fun (u : (Nat → Nat) × (Nat → ClassId)) => u.1 0 = x0) (fun u t => va_P D vwCl (wld u.2 u.1 (fun i => i) σI) t.heap ∧ va_D A (wld u.2 u.1 (fun i => i) σI) ∧ va_K D vwCl (wty u.2) t) A) ([.ref (x0)] : List Value).toArray s 61 436 A) (F0 m 25 ls []) := by
    intro d
    induction d with
    | zero => intro i a E H locs ls h0; exact absurd h0 (Nat.not_lt_zero _)
    | succ d ih =>
      intro i a E H locs ls hms hi XFwea XFsite XGsite XGwea XGcra hfa hel hP hD hS hl
      obtain ⟨f, hf, hfj⟩ := hfa
      have XFcra := hf
      have XFel := hel
      have Fwea_h := XFwea
      have Fsite_h := XFsite
      have Fcra_h := XFcra
      have Fel_h := XFel
      have Gsite_h := XGsite
      have Gwea_h := XGwea
      have Gcra_h := XGcra
      refine lv_iload_n hx hb dX7_init_25 rfl (lv_at hl 1 rfl) ?_
      refine lv_iconst (v := zI 3) hx hb dX7_init_26 rfl ?_
      refine z_icmp_ge (tgt := 50) hx hb dX7_init_27 (by decide) (by omega) (by omega) (fun cd25 => ?_) (fun cd25 => ?_)
      · skip
        obtain rfl : i = 3 := by omega
        have Fcra_z := Fcra_h
        have Fecra_z := hel
        obtain ⟨fcra, efcra⟩ : ∃ z : Nat → Option Nat, z = f := ⟨_, rfl⟩
        obtain ⟨αcra, eαcra⟩ : ∃ z : Nat → Nat, z = a := ⟨_, rfl⟩
        rw [← efcra] at Fcra_z hfj
        have hfjcra : ∀ j, j < 3 → fcra j = some (αcra (3 + j)) := fun j hj => by rw [eαcra]; exact hfj j hj
        have Gecra_z : ∀ j, j < 3 → a (3 + j) = αcra (3 + j) := fun j hj => by rw [eαcra]
        have hP : va_P D vwCl (pw 6 a E) H := hP
        have hD : va_D A (pw 6 a E) := hD
        refine lv_aload_n hx hb dX7_init_50 rfl (lv_at hl 0 rfl) ?_
        refine lv_bipush (v := zI 6) hx hb dX7_init_51 (by decide +kernel) ?_
        refine va_newq (n := zI 6) (N' := 6) hx hb hown (hts (.classLink RX7 25 RX6) (by decide +kernel)) hOX6 hK hP hD hS hA (by decide) (by decide) (by decide) (show 0 + 1 + 0 + 1 + 3 + 1 ≤ 61 by omega) (show 0 + 7 + 0 + 3 + 3 * 12 + 6 ≤ 436 by omega) dX7_init_53 (fun q53 y53 H hK hP hD hS => ?_)
        have hK : va_K D vwCl [(y17, .object "Slewfree$Crane"), (y53, .object "Slewfree$Zone")] s := hK
        rw [pw_app] at hP hD
        obtain ⟨a53, ha53⟩ : ∃ z : Nat → Nat, z = upN a (6) q53 := ⟨_, rfl⟩
        obtain ⟨E53, hE53⟩ : ∃ z : Nat → va_E, z = upN E (6) (.inl (y53, 6, .inr (.inr (.inr (.inr (fun _ => none)))))) := ⟨_, rfl⟩
        rw [← ha53, ← hE53] at hP hD
        have Fwea_E53 : E53 (1) = .inr (7, [.int (zI 0), .int (zI 31), .int (zI 0), .int (zI 0), .int (zI 0), .int (zI 0), .int (zI 0)]) := by have h9 := congrFun hE53 (1); rw [upN_n (by omega)] at h9; exact h9.trans Fwea_h
        have Fsite_E53 : E53 0 = .inr (9, [.ref q5, .ref q17, .null, .null, .null, .int (zI 0), .int (zI 0), .int (zI 0), .int (zI 0)]) := by have h9 := congrFun hE53 0; rw [upN_n (by omega)] at h9; exact h9.trans Fsite_h
        have Fcra_E53 : E53 2 = .inl (y17, 3, .inr (.inr (.inr (.inr fcra)))) := by have h9 := congrFun hE53 2; rw [upN_n (by omega)] at h9; exact h9.trans Fcra_z
        have Fecra_E53 : ∀ j, j < 3 → E53 (3 + j) = .inr (2, [.int (zI (j : Int)), .int (zI 0), .int (zI 0), .int (zI 0), .int (zI 0), .int (zI 0), .int (zI 0), .int (zI 0), .int (zI 0), .int (zI 0), .int (zI 0), .int (zI 0)]) := fun j hj => by rw [hE53, upN_n (by omega)]; exact Fecra_z j hj
        have Gsite_a53 : a53 0 = x0 := by have h9 := congrFun ha53 0; rw [upN_n (by omega)] at h9; exact h9.trans Gsite_h
        have Gwea_a53 : a53 (1) = q5 := by have h9 := congrFun ha53 (1); rw [upN_n (by omega)] at h9; exact h9.trans Gwea_h
        have Gcra_a53 : a53 (1 + 1) = q17 := by have h9 := congrFun ha53 (1 + 1); rw [upN_n (by omega)] at h9; exact h9.trans Gcra_h
        have Gecra_a53 : ∀ j, j < 3 → a53 (3 + j) = αcra (3 + j) := fun j hj => by rw [ha53, upN_n (by omega)]; exact Gecra_z j hj
        have Fzon_E53 : E53 (6) = .inl (y53, 6, .inr (.inr (.inr (.inr (fun _ => none))))) := by rw [hE53]; exact upN_s _ _ _
        have Gzon_a53 : a53 (6) = q53 := by rw [ha53]; exact upN_s _ _ _
        have tsite_56 : (pw (6 + 1) a53 E53)[0]? = some ((x0, .inr (9, [.ref q5, .ref q17, .null, .null, .null, .int (zI 0), .int (zI 0), .int (zI 0), .int (zI 0)])) : Nat × va_E) := by rw [pw_get (by omega), Gsite_a53, Fsite_E53]
        refine va_putF (D := D) (ci := 9) (v := .ref q53) (ty := (.array (.object "Slewfree$Zone"))) (C := RX7) (T := TX7) (N := 9) hx hb hts inX7 tyX7 tyX7_ok nmX7 hown hK hP hD hS 0 tsite_56 rfl 2 (by decide) (hts (.fieldLink RX7 27 "Slewfree" "zones" "[LSlewfree$Zone;") (by decide +kernel)) (fun _ h9 => h9) rfl hin rfl (by decide +kernel) rfl rfl (Nat.le_of_ble_eq_true rfl) dX7_init_56 (fun H locs hP hD hS => ?_)
        have hP : va_P D vwCl ((pw (6 + 1) a53 E53).set 0 (x0, .inr (9, [.ref q5, .ref q17, .ref q53, .null, .null, .int (zI 0), .int (zI 0), .int (zI 0), .int (zI 0)]))) H := hP
        have hD : va_D A ((pw (6 + 1) a53 E53).set 0 (x0, .inr (9, [.ref q5, .ref q17, .ref q53, .null, .null, .int (zI 0), .int (zI 0), .int (zI 0), .int (zI 0)]))) := hD
        rw [pw_set Gsite_a53 (by omega)] at hP hD
        obtain ⟨E56, hE56⟩ : ∃ z : Nat → va_E, z = upN E53 0 (.inr (9, [.ref q5, .ref q17, .ref q53, .null, .null, .int (zI 0), .int (zI 0), .int (zI 0), .int (zI 0)])) := ⟨_, rfl⟩
        rw [← hE56] at hP hD
        have Fwea_E56 : E56 (1) = .inr (7, [.int (zI 0), .int (zI 31), .int (zI 0), .int (zI 0), .int (zI 0), .int (zI 0), .int (zI 0)]) := by have h9 := congrFun hE56 (1); rw [upN_n (by omega)] at h9; exact h9.trans Fwea_E53
        have Fcra_E56 : E56 2 = .inl (y17, 3, .inr (.inr (.inr (.inr fcra)))) := by have h9 := congrFun hE56 2; rw [upN_n (by omega)] at h9; exact h9.trans Fcra_E53
        have Fecra_E56 : ∀ j, j < 3 → E56 (3 + j) = .inr (2, [.int (zI (j : Int)), .int (zI 0), .int (zI 0), .int (zI 0), .int (zI 0), .int (zI 0), .int (zI 0), .int (zI 0), .int (zI 0), .int (zI 0), .int (zI 0), .int (zI 0)]) := fun j hj => by rw [hE56, upN_n (by omega)]; exact Fecra_E53 j hj
        have Fzon_E56 : E56 (6) = .inl (y53, 6, .inr (.inr (.inr (.inr (fun _ => none))))) := by have h9 := congrFun hE56 (6); rw [upN_n (by omega)] at h9; exact h9.trans Fzon_E53
        have Fsite_E56 : E56 0 = .inr (9, [.ref q5, .ref q17, .ref q53, .null, .null, .int (zI 0), .int (zI 0), .int (zI 0), .int (zI 0)]) := by rw [hE56]; exact upN_s _ _ _
        refine lv_iconst (v := zI 0) hx hb dX7_init_59 rfl ?_
        refine lv_istore_n (lv' := [(1, .int (zI 0)), (0, .ref (x0))]) hx hb dX7_init_60 rfl hl (by decide) rfl (fun ls hl => ?_)
        have loop61 : ∀ (d : Nat) (i : Nat) (a : Nat → Nat) (E : Nat → va_E) (H : Heap) (locs : List Loc) (ls : Array Slot), 6 - i < d → i ≤ 6 → (E (1) = .inr (7, [.int (zI 0), .int (zI 31), .int (zI 0), .int (zI 0), .int (zI 0), .int (zI 0), .int (zI 0)])) → (E 2 = .inl (y17, 3, .inr (.inr (.inr (.inr fcra))))) → (∀ j, j < 3 → E (3 + j) = .inr (2, [.int (zI (j : Int)), .int (zI 0), .int (zI 0), .int (zI 0), .int (zI 0), .int (zI 0), .int (zI 0), .int (zI 0), .int (zI 0), .int (zI 0), .int (zI 0), .int (zI 0)])) → (E 0 = .inr (9, [.ref q5, .ref q17, .ref q53, .null, .null, .int (zI 0), .int (zI 0), .int (zI 0), .int (zI 0)])) → (a 0 = x0) → (a (1) = q5) → (a (1 + 1) = q17) → (∀ j, j < 3 → a (3 + j) = αcra (3 + j)) → (a (6) = q53) → (∃ f : Nat → Option Nat, E 6 = .inl (y53, 6, .inr (.inr (.inr (.inr f)))) ∧ ∀ j, j < i → f j = some (a (7 + j))) → (∀ j, j < i → E (7 + j) = .inr (8, [.int (zI 0), .int (zI 0), .int (zI 0), .int (zI 0), .int (zI 0)])) → va_P D vwCl (pw (7 + i) a E) H → va_D A (pw (7 + i) a E) → va_S A s.heap H locs → lv_has ls 2 [(0, .ref (x0)), (1, .int (zI ((i : Int))))] → W p l e (headSpec wsX7_init ({ frames := 9, cells := 61, slots := 436, locals := 300 })).room s m ([.ref (x0)] : List Value).toArray below meth c H locs (0 + 1 + 0 + 1 + 3 + 1 + i) (0 + 7 + 0 + 3 + 3 * 12 + 6 + i * 5) (MQ below (va_Qv (fun (u : (Nat → Nat) × (Nat → ClassId)) => u.1 0 = x0) (fun u t => va_P D vwCl (wld u.2 u.1 (fun i => i) σI) t.heap ∧ va_D A (wld u.2 u.1 (fun i => i) σI) ∧ va_K D vwCl (wty u.2) t) A) ([.ref (x0)] : List Value).toArray s 61 436 A) (F0 m 61 ls []) := by
          intro d
          induction d with
          | zero => intro i a E H locs ls h0; exact absurd h0 (Nat.not_lt_zero _)
          | succ d ih =>
            intro i a E H locs ls hms hi XFwea XFcra XFecra XFsite XGsite XGwea XGcra XGecra XGzon hfa hel hP hD hS hl
            obtain ⟨f, hf, hfj⟩ := hfa
            have XFzon := hf
            have XFel := hel
            have Fwea_h := XFwea
            have Fcra_h := XFcra
            have Fecra_h := XFecra
            have Fsite_h := XFsite
            have Fzon_h := XFzon
            have Fel_h := XFel
            have Gsite_h := XGsite
            have Gwea_h := XGwea
            have Gcra_h := XGcra
            have Gecra_h := XGecra
            have Gzon_h := XGzon
            refine lv_iload_n hx hb dX7_init_61 rfl (lv_at hl 1 rfl) ?_
            refine lv_bipush (v := zI 6) hx hb dX7_init_62 (by decide +kernel) ?_
            refine z_icmp_ge (tgt := 86) hx hb dX7_init_64 (by decide) (by omega) (by omega) (fun cd61 => ?_) (fun cd61 => ?_)
            · skip
              obtain rfl : i = 6 := by omega
              have Fzon_z := Fzon_h
              have Fezon_z := hel
              obtain ⟨fzon, efzon⟩ : ∃ z : Nat → Option Nat, z = f := ⟨_, rfl⟩
              obtain ⟨αzon, eαzon⟩ : ∃ z : Nat → Nat, z = a := ⟨_, rfl⟩
              rw [← efzon] at Fzon_z hfj
              have hfjzon : ∀ j, j < 6 → fzon j = some (αzon (7 + j)) := fun j hj => by rw [eαzon]; exact hfj j hj
              have Gezon_z : ∀ j, j < 6 → a (7 + j) = αzon (7 + j) := fun j hj => by rw [eαzon]
              have hP : va_P D vwCl (pw 13 a E) H := hP
              have hD : va_D A (pw 13 a E) := hD
              refine lv_aload_n hx hb dX7_init_86 rfl (lv_at hl 0 rfl) ?_
              refine lv_bipush (v := zI 6) hx hb dX7_init_87 (by decide +kernel) ?_
              refine va_newq (n := zI 6) (N' := 6) hx hb hown (hts (.classLink RX7 32 RX2) (by decide +kernel)) hOX2 hK hP hD hS hA (by decide) (by decide) (by decide) (show 0 + 1 + 0 + 1 + 3 + 1 + 6 + 1 ≤ 61 by omega) (show 0 + 7 + 0 + 3 + 3 * 12 + 6 + 6 * 5 + 6 ≤ 436 by omega) dX7_init_89 (fun q89 y89 H hK hP hD hS => ?_)
              have hK : va_K D vwCl [(y17, .object "Slewfree$Crane"), (y53, .object "Slewfree$Zone"), (y89, .object "Slewfree$Meeting")] s := hK
              rw [pw_app] at hP hD
              obtain ⟨a89, ha89⟩ : ∃ z : Nat → Nat, z = upN a (13) q89 := ⟨_, rfl⟩
              obtain ⟨E89, hE89⟩ : ∃ z : Nat → va_E, z = upN E (13) (.inl (y89, 6, .inr (.inr (.inr (.inr (fun _ => none)))))) := ⟨_, rfl⟩
              rw [← ha89, ← hE89] at hP hD
              have Fwea_E89 : E89 (1) = .inr (7, [.int (zI 0), .int (zI 31), .int (zI 0), .int (zI 0), .int (zI 0), .int (zI 0), .int (zI 0)]) := by have h9 := congrFun hE89 (1); rw [upN_n (by omega)] at h9; exact h9.trans Fwea_h
              have Fcra_E89 : E89 2 = .inl (y17, 3, .inr (.inr (.inr (.inr fcra)))) := by have h9 := congrFun hE89 2; rw [upN_n (by omega)] at h9; exact h9.trans Fcra_h
              have Fecra_E89 : ∀ j, j < 3 → E89 (3 + j) = .inr (2, [.int (zI (j : Int)), .int (zI 0), .int (zI 0), .int (zI 0), .int (zI 0), .int (zI 0), .int (zI 0), .int (zI 0), .int (zI 0), .int (zI 0), .int (zI 0), .int (zI 0)]) := fun j hj => by rw [hE89, upN_n (by omega)]; exact Fecra_h j hj
              have Fsite_E89 : E89 0 = .inr (9, [.ref q5, .ref q17, .ref q53, .null, .null, .int (zI 0), .int (zI 0), .int (zI 0), .int (zI 0)]) := by have h9 := congrFun hE89 0; rw [upN_n (by omega)] at h9; exact h9.trans Fsite_h
              have Fzon_E89 : E89 6 = .inl (y53, 6, .inr (.inr (.inr (.inr fzon)))) := by have h9 := congrFun hE89 6; rw [upN_n (by omega)] at h9; exact h9.trans Fzon_z
              have Fezon_E89 : ∀ j, j < 6 → E89 (7 + j) = .inr (8, [.int (zI 0), .int (zI 0), .int (zI 0), .int (zI 0), .int (zI 0)]) := fun j hj => by rw [hE89, upN_n (by omega)]; exact Fezon_z j hj
              have Gsite_a89 : a89 0 = x0 := by have h9 := congrFun ha89 0; rw [upN_n (by omega)] at h9; exact h9.trans Gsite_h
              have Gwea_a89 : a89 (1) = q5 := by have h9 := congrFun ha89 (1); rw [upN_n (by omega)] at h9; exact h9.trans Gwea_h
              have Gcra_a89 : a89 (1 + 1) = q17 := by have h9 := congrFun ha89 (1 + 1); rw [upN_n (by omega)] at h9; exact h9.trans Gcra_h
              have Gecra_a89 : ∀ j, j < 3 → a89 (3 + j) = αcra (3 + j) := fun j hj => by rw [ha89, upN_n (by omega)]; exact Gecra_h j hj
              have Gzon_a89 : a89 (6) = q53 := by have h9 := congrFun ha89 (6); rw [upN_n (by omega)] at h9; exact h9.trans Gzon_h
              have Gezon_a89 : ∀ j, j < 6 → a89 (7 + j) = αzon (7 + j) := fun j hj => by rw [ha89, upN_n (by omega)]; exact Gezon_z j hj
              have Fmee_E89 : E89 (13) = .inl (y89, 6, .inr (.inr (.inr (.inr (fun _ => none))))) := by rw [hE89]; exact upN_s _ _ _
              have Gmee_a89 : a89 (13) = q89 := by rw [ha89]; exact upN_s _ _ _
              have tsite_92 : (pw (13 + 1) a89 E89)[0]? = some ((x0, .inr (9, [.ref q5, .ref q17, .ref q53, .null, .null, .int (zI 0), .int (zI 0), .int (zI 0), .int (zI 0)])) : Nat × va_E) := by rw [pw_get (by omega), Gsite_a89, Fsite_E89]
              refine va_putF (D := D) (ci := 9) (v := .ref q89) (ty := (.array (.object "Slewfree$Meeting"))) (C := RX7) (T := TX7) (N := 9) hx hb hts inX7 tyX7 tyX7_ok nmX7 hown hK hP hD hS 0 tsite_92 rfl 3 (by decide) (hts (.fieldLink RX7 34 "Slewfree" "meetings" "[LSlewfree$Meeting;") (by decide +kernel)) (fun _ h9 => h9) rfl hin rfl (by decide +kernel) rfl rfl (Nat.le_of_ble_eq_true rfl) dX7_init_92 (fun H locs hP hD hS => ?_)
              have hP : va_P D vwCl ((pw (13 + 1) a89 E89).set 0 (x0, .inr (9, [.ref q5, .ref q17, .ref q53, .ref q89, .null, .int (zI 0), .int (zI 0), .int (zI 0), .int (zI 0)]))) H := hP
              have hD : va_D A ((pw (13 + 1) a89 E89).set 0 (x0, .inr (9, [.ref q5, .ref q17, .ref q53, .ref q89, .null, .int (zI 0), .int (zI 0), .int (zI 0), .int (zI 0)]))) := hD
              rw [pw_set Gsite_a89 (by omega)] at hP hD
              obtain ⟨E92, hE92⟩ : ∃ z : Nat → va_E, z = upN E89 0 (.inr (9, [.ref q5, .ref q17, .ref q53, .ref q89, .null, .int (zI 0), .int (zI 0), .int (zI 0), .int (zI 0)])) := ⟨_, rfl⟩
              rw [← hE92] at hP hD
              have Fwea_E92 : E92 (1) = .inr (7, [.int (zI 0), .int (zI 31), .int (zI 0), .int (zI 0), .int (zI 0), .int (zI 0), .int (zI 0)]) := by have h9 := congrFun hE92 (1); rw [upN_n (by omega)] at h9; exact h9.trans Fwea_E89
              have Fcra_E92 : E92 2 = .inl (y17, 3, .inr (.inr (.inr (.inr fcra)))) := by have h9 := congrFun hE92 2; rw [upN_n (by omega)] at h9; exact h9.trans Fcra_E89
              have Fecra_E92 : ∀ j, j < 3 → E92 (3 + j) = .inr (2, [.int (zI (j : Int)), .int (zI 0), .int (zI 0), .int (zI 0), .int (zI 0), .int (zI 0), .int (zI 0), .int (zI 0), .int (zI 0), .int (zI 0), .int (zI 0), .int (zI 0)]) := fun j hj => by rw [hE92, upN_n (by omega)]; exact Fecra_E89 j hj
              have Fzon_E92 : E92 6 = .inl (y53, 6, .inr (.inr (.inr (.inr fzon)))) := by have h9 := congrFun hE92 6; rw [upN_n (by omega)] at h9; exact h9.trans Fzon_E89
              have Fezon_E92 : ∀ j, j < 6 → E92 (7 + j) = .inr (8, [.int (zI 0), .int (zI 0), .int (zI 0), .int (zI 0), .int (zI 0)]) := fun j hj => by rw [hE92, upN_n (by omega)]; exact Fezon_E89 j hj
              have Fmee_E92 : E92 (13) = .inl (y89, 6, .inr (.inr (.inr (.inr (fun _ => none))))) := by have h9 := congrFun hE92 (13); rw [upN_n (by omega)] at h9; exact h9.trans Fmee_E89
              have Fsite_E92 : E92 0 = .inr (9, [.ref q5, .ref q17, .ref q53, .ref q89, .null, .int (zI 0), .int (zI 0), .int (zI 0), .int (zI 0)]) := by rw [hE92]; exact upN_s _ _ _
              refine lv_iconst (v := zI 0) hx hb dX7_init_95 rfl ?_
              refine lv_istore_n (lv' := [(1, .int (zI 0)), (0, .ref (x0))]) hx hb dX7_init_96 rfl hl (by decide) rfl (fun ls hl => ?_)
              have loop97 : ∀ (d : Nat) (i : Nat) (a : Nat → Nat) (E : Nat → va_E) (H : Heap) (locs : List Loc) (ls : Array Slot), 6 - i < d → i ≤ 6 → (E (1) = .inr (7, [.int (zI 0), .int (zI 31), .int (zI 0), .int (zI 0), .int (zI 0), .int (zI 0), .int (zI 0)])) → (E 2 = .inl (y17, 3, .inr (.inr (.inr (.inr fcra))))) → (∀ j, j < 3 → E (3 + j) = .inr (2, [.int (zI (j : Int)), .int (zI 0), .int (zI 0), .int (zI 0), .int (zI 0), .int (zI 0), .int (zI 0), .int (zI 0), .int (zI 0), .int (zI 0), .int (zI 0), .int (zI 0)])) → (E 6 = .inl (y53, 6, .inr (.inr (.inr (.inr fzon))))) → (∀ j, j < 6 → E (7 + j) = .inr (8, [.int (zI 0), .int (zI 0), .int (zI 0), .int (zI 0), .int (zI 0)])) → (E 0 = .inr (9, [.ref q5, .ref q17, .ref q53, .ref q89, .null, .int (zI 0), .int (zI 0), .int (zI 0), .int (zI 0)])) → (a 0 = x0) → (a (1) = q5) → (a (1 + 1) = q17) → (∀ j, j < 3 → a (3 + j) = αcra (3 + j)) → (a (6) = q53) → (∀ j, j < 6 → a (7 + j) = αzon (7 + j)) → (a (13) = q89) → (∃ f : Nat → Option Nat, E 13 = .inl (y89, 6, .inr (.inr (.inr (.inr f)))) ∧ ∀ j, j < i → f j = some (a (14 + j))) → (∀ j, j < i → E (14 + j) = .inr (4, [.int (zI 0), .int (zI 0), .int (zI 0), .int (zI 0)])) → va_P D vwCl (pw (14 + i) a E) H → va_D A (pw (14 + i) a E) → va_S A s.heap H locs → lv_has ls 2 [(0, .ref (x0)), (1, .int (zI ((i : Int))))] → W p l e (headSpec wsX7_init ({ frames := 9, cells := 61, slots := 436, locals := 300 })).room s m ([.ref (x0)] : List Value).toArray below meth c H locs (0 + 1 + 0 + 1 + 3 + 1 + 6 + 1 + i) (0 + 7 + 0 + 3 + 3 * 12 + 6 + 6 * 5 + 6 + i * 4) (MQ below (va_Qv (fun (u : (Nat → Nat) × (Nat → ClassId)) => u.1 0 = x0) (fun u t => va_P D vwCl (wld u.2 u.1 (fun i => i) σI) t.heap ∧ va_D A (wld u.2 u.1 (fun i => i) σI) ∧ va_K D vwCl (wty u.2) t) A) ([.ref (x0)] : List Value).toArray s 61 436 A) (F0 m 97 ls []) := by
                intro d
                induction d with
                | zero => intro i a E H locs ls h0; exact absurd h0 (Nat.not_lt_zero _)
                | succ d ih =>
                  intro i a E H locs ls hms hi XFwea XFcra XFecra XFzon XFezon XFsite XGsite XGwea XGcra XGecra XGzon XGezon XGmee hfa hel hP hD hS hl
                  obtain ⟨f, hf, hfj⟩ := hfa
                  have XFmee := hf
                  have XFel := hel
                  have Fwea_h := XFwea
                  have Fcra_h := XFcra
                  have Fecra_h := XFecra
                  have Fzon_h := XFzon
                  have Fezon_h := XFezon
                  have Fsite_h := XFsite
                  have Fmee_h := XFmee
                  have Fel_h := XFel
                  have Gsite_h := XGsite
                  have Gwea_h := XGwea
                  have Gcra_h := XGcra
                  have Gecra_h := XGecra
                  have Gzon_h := XGzon
                  have Gezon_h := XGezon
                  have Gmee_h := XGmee
                  refine lv_iload_n hx hb dX7_init_97 rfl (lv_at hl 1 rfl) ?_
                  refine lv_bipush (v := zI 6) hx hb dX7_init_98 (by decide +kernel) ?_
                  refine z_icmp_ge (tgt := 122) hx hb dX7_init_100 (by decide) (by omega) (by omega) (fun cd97 => ?_) (fun cd97 => ?_)
                  · skip
                    obtain rfl : i = 6 := by omega
                    have Fmee_z := Fmee_h
                    have Femee_z := hel
                    obtain ⟨fmee, efmee⟩ : ∃ z : Nat → Option Nat, z = f := ⟨_, rfl⟩
                    obtain ⟨αmee, eαmee⟩ : ∃ z : Nat → Nat, z = a := ⟨_, rfl⟩
                    rw [← efmee] at Fmee_z hfj
                    have hfjmee : ∀ j, j < 6 → fmee j = some (αmee (14 + j)) := fun j hj => by rw [eαmee]; exact hfj j hj
                    have Gemee_z : ∀ j, j < 6 → a (14 + j) = αmee (14 + j) := fun j hj => by rw [eαmee]
                    have hP : va_P D vwCl (pw 20 a E) H := hP
                    have hD : va_D A (pw 20 a E) := hD
                    refine lv_aload_n hx hb dX7_init_122 rfl (lv_at hl 0 rfl) ?_
                    refine w_new (ci := 3) (fs := [.null, .int (zI 0), .int (zI 0), .int (zI 0)]) (C := RX1) (T := TX1) (N := 4) hx hb hts inX1 tyX1 tyX1_ok hown (hts (.classLink RX7 39 RX1) (by decide +kernel)) (hts (.instantiable RX1 4) (by decide +kernel)) (hts (.initialized RX1) (by decide +kernel)) hK hP hD hS hA rfl (fun j hj => by rcases (show j = 0 ∨ j = 1 ∨ j = 2 ∨ j = 3 by omega) with rfl | rfl | rfl | rfl <;> rfl) (show 0 + 1 + 0 + 1 + 3 + 1 + 6 + 1 + 6 + 1 ≤ 61 by omega) (show 0 + 7 + 0 + 3 + 3 * 12 + 6 + 6 * 5 + 6 + 6 * 4 + 4 ≤ 436 by omega) dX7_init_123 (fun q123 H hxq hsz1 ho1 hP hD hS1 => ?_)
                    have hS := hS1
                    rw [pw_app] at hP hD
                    obtain ⟨a123, ha123⟩ : ∃ z : Nat → Nat, z = upN a (20) q123 := ⟨_, rfl⟩
                    obtain ⟨E123, hE123⟩ : ∃ z : Nat → va_E, z = upN E (20) (.inr (3, [.null, .int (zI 0), .int (zI 0), .int (zI 0)])) := ⟨_, rfl⟩
                    rw [← ha123, ← hE123] at hP hD
                    have Fwea_E123 : E123 (1) = .inr (7, [.int (zI 0), .int (zI 31), .int (zI 0), .int (zI 0), .int (zI 0), .int (zI 0), .int (zI 0)]) := by have h9 := congrFun hE123 (1); rw [upN_n (by omega)] at h9; exact h9.trans Fwea_h
                    have Fcra_E123 : E123 2 = .inl (y17, 3, .inr (.inr (.inr (.inr fcra)))) := by have h9 := congrFun hE123 2; rw [upN_n (by omega)] at h9; exact h9.trans Fcra_h
                    have Fecra_E123 : ∀ j, j < 3 → E123 (3 + j) = .inr (2, [.int (zI (j : Int)), .int (zI 0), .int (zI 0), .int (zI 0), .int (zI 0), .int (zI 0), .int (zI 0), .int (zI 0), .int (zI 0), .int (zI 0), .int (zI 0), .int (zI 0)]) := fun j hj => by rw [hE123, upN_n (by omega)]; exact Fecra_h j hj
                    have Fzon_E123 : E123 6 = .inl (y53, 6, .inr (.inr (.inr (.inr fzon)))) := by have h9 := congrFun hE123 6; rw [upN_n (by omega)] at h9; exact h9.trans Fzon_h
                    have Fezon_E123 : ∀ j, j < 6 → E123 (7 + j) = .inr (8, [.int (zI 0), .int (zI 0), .int (zI 0), .int (zI 0), .int (zI 0)]) := fun j hj => by rw [hE123, upN_n (by omega)]; exact Fezon_h j hj
                    have Fsite_E123 : E123 0 = .inr (9, [.ref q5, .ref q17, .ref q53, .ref q89, .null, .int (zI 0), .int (zI 0), .int (zI 0), .int (zI 0)]) := by have h9 := congrFun hE123 0; rw [upN_n (by omega)] at h9; exact h9.trans Fsite_h
                    have Fmee_E123 : E123 13 = .inl (y89, 6, .inr (.inr (.inr (.inr fmee)))) := by have h9 := congrFun hE123 13; rw [upN_n (by omega)] at h9; exact h9.trans Fmee_z
                    have Femee_E123 : ∀ j, j < 6 → E123 (14 + j) = .inr (4, [.int (zI 0), .int (zI 0), .int (zI 0), .int (zI 0)]) := fun j hj => by rw [hE123, upN_n (by omega)]; exact Femee_z j hj
                    have Gsite_a123 : a123 0 = x0 := by have h9 := congrFun ha123 0; rw [upN_n (by omega)] at h9; exact h9.trans Gsite_h
                    have Gwea_a123 : a123 (1) = q5 := by have h9 := congrFun ha123 (1); rw [upN_n (by omega)] at h9; exact h9.trans Gwea_h
                    have Gcra_a123 : a123 (1 + 1) = q17 := by have h9 := congrFun ha123 (1 + 1); rw [upN_n (by omega)] at h9; exact h9.trans Gcra_h
                    have Gecra_a123 : ∀ j, j < 3 → a123 (3 + j) = αcra (3 + j) := fun j hj => by rw [ha123, upN_n (by omega)]; exact Gecra_h j hj
                    have Gzon_a123 : a123 (6) = q53 := by have h9 := congrFun ha123 (6); rw [upN_n (by omega)] at h9; exact h9.trans Gzon_h
                    have Gezon_a123 : ∀ j, j < 6 → a123 (7 + j) = αzon (7 + j) := fun j hj => by rw [ha123, upN_n (by omega)]; exact Gezon_h j hj
                    have Gmee_a123 : a123 (13) = q89 := by have h9 := congrFun ha123 (13); rw [upN_n (by omega)] at h9; exact h9.trans Gmee_h
                    have Gemee_a123 : ∀ j, j < 6 → a123 (14 + j) = αmee (14 + j) := fun j hj => by rw [ha123, upN_n (by omega)]; exact Gemee_z j hj
                    have Flog_E123 : E123 (20) = .inr (3, [.null, .int (zI 0), .int (zI 0), .int (zI 0)]) := by rw [hE123]; exact upN_s _ _ _
                    have Glog_a123 : a123 (20) = q123 := by rw [ha123]; exact upN_s _ _ _
                    refine lv_dup hx hb dX7_init_126 rfl ?_
                    have hP : va_P D vwCl (pw 21 a123 E123) H := hP
                    have hD : va_D A (pw 21 a123 E123) := hD
                    have hg20 : q123 = a123 20 := (Glog_a123).symm
                    rw [hg20]
                    refine va_callv (va_runI (As := []) (rest := [.ref (a123 20), .ref x0]) ⟨hx, hb, hml, hown, hts⟩ (c_X1_init l D A H.size (fun y h => hA y (Nat.le_trans hS.1 h)) a123 E123 Flog_E123) (cwI 0 hts gX7_init_X1_init rfl rfl rfl (hts (.initialized RX1) (by decide +kernel)) (hts (.methodLink RX7 41 yX1_init) (by decide +kernel)) (hts (.instanceMethod yX1_init) (by decide +kernel)) rfl (by decide +kernel) ⟨Nat.le_of_ble_eq_true rfl, Nat.le_of_ble_eq_true rfl⟩) ⟨lN_blind rfl, fun U hU hW => ⟨rfl, by rw [hU], by rw [hU]; exact hP, hD, va_K.moved hW.alike (hK.sub [] rfl), va_AO.moved hW.alike hOX3, va_Nw.warmM hW hN3⟩⟩ rfl rfl hl.1 rfl (lv_room (Nat.le_of_ble_eq_true rfl)) dX7_init_127 ⟨(show 0 + 1 + 0 + 1 + 3 + 1 + 6 + 1 + 6 + 1 + 41 ≤ 61 by omega), (show 0 + 7 + 0 + 3 + 3 * 12 + 6 + 6 * 5 + 6 + 6 * 4 + 4 + 320 ≤ 436 by omega)⟩) hS (fun _ _ h => h) (fun _ h => h) (fun u9 t9 H locs ht hvm hw hB hz hk hS1 => ?_)
                    obtain ⟨aL, EL, yL⟩ := u9
                    obtain ⟨hP9, hD9, hK9⟩ := hB
                    obtain ⟨ga, gE, g20, ⟨fL, g21, gf⟩, g22⟩ := hw
                    dsimp only at hP9 hD9 hK9 ga gE g20 g21 gf g22
                    rw [ht] at hP9
                    have hP := hP9
                    have hD := hD9
                    have hS := hS1
                    have hK : va_K D vwCl ([(y17, .object "Slewfree$Crane"), (y53, .object "Slewfree$Zone"), (y89, .object "Slewfree$Meeting")] ++ [(yL, .object "Slewfree$Page")]) s := hK.app (va_K.moved hvm.symm hK9)
                    have Fwea_L : EL (1) = .inr (7, [.int (zI 0), .int (zI 31), .int (zI 0), .int (zI 0), .int (zI 0), .int (zI 0), .int (zI 0)]) := (gE _ (by omega)).trans Fwea_E123
                    have Fcra_L : EL 2 = .inl (y17, 3, .inr (.inr (.inr (.inr fcra)))) := (gE _ (by omega)).trans Fcra_E123
                    have Fecra_L : ∀ j, j < 3 → EL (3 + j) = .inr (2, [.int (zI (j : Int)), .int (zI 0), .int (zI 0), .int (zI 0), .int (zI 0), .int (zI 0), .int (zI 0), .int (zI 0), .int (zI 0), .int (zI 0), .int (zI 0), .int (zI 0)]) := fun j hj => (gE _ (by omega)).trans (Fecra_E123 j hj)
                    have Fzon_L : EL 6 = .inl (y53, 6, .inr (.inr (.inr (.inr fzon)))) := (gE _ (by omega)).trans Fzon_E123
                    have Fezon_L : ∀ j, j < 6 → EL (7 + j) = .inr (8, [.int (zI 0), .int (zI 0), .int (zI 0), .int (zI 0), .int (zI 0)]) := fun j hj => (gE _ (by omega)).trans (Fezon_E123 j hj)
                    have Fsite_L : EL 0 = .inr (9, [.ref q5, .ref q17, .ref q53, .ref q89, .null, .int (zI 0), .int (zI 0), .int (zI 0), .int (zI 0)]) := (gE _ (by omega)).trans Fsite_E123
                    have Fmee_L : EL 13 = .inl (y89, 6, .inr (.inr (.inr (.inr fmee)))) := (gE _ (by omega)).trans Fmee_E123
                    have Femee_L : ∀ j, j < 6 → EL (14 + j) = .inr (4, [.int (zI 0), .int (zI 0), .int (zI 0), .int (zI 0)]) := fun j hj => (gE _ (by omega)).trans (Femee_E123 j hj)
                    have Gsite_L : aL 0 = x0 := (ga _ (by omega)).trans Gsite_a123
                    have Gwea_L : aL (1) = q5 := (ga _ (by omega)).trans Gwea_a123
                    have Gcra_L : aL (1 + 1) = q17 := (ga _ (by omega)).trans Gcra_a123
                    have Gecra_L : ∀ j, j < 3 → aL (3 + j) = αcra (3 + j) := fun j hj => (ga _ (by omega)).trans (Gecra_a123 j hj)
                    have Gzon_L : aL (6) = q53 := (ga _ (by omega)).trans Gzon_a123
                    have Gezon_L : ∀ j, j < 6 → aL (7 + j) = αzon (7 + j) := fun j hj => (ga _ (by omega)).trans (Gezon_a123 j hj)
                    have Gmee_L : aL (13) = q89 := (ga _ (by omega)).trans Gmee_a123
                    have Gemee_L : ∀ j, j < 6 → aL (14 + j) = αmee (14 + j) := fun j hj => (ga _ (by omega)).trans (Gemee_a123 j hj)
                    have Glog_L : aL (20) = q123 := (ga _ (by omega)).trans Glog_a123
                    rw [← hg20]
                    have tsite_130 : (pw (62) aL EL)[0]? = some ((x0, .inr (9, [.ref q5, .ref q17, .ref q53, .ref q89, .null, .int (zI 0), .int (zI 0), .int (zI 0), .int (zI 0)])) : Nat × va_E) := by rw [pw_get (by omega), Gsite_L, Fsite_L]
                    refine va_putF (D := D) (ci := 9) (v := .ref q123) (ty := (.object "Slewfree$Log")) (C := RX7) (T := TX7) (N := 9) hx hb hts inX7 tyX7 tyX7_ok nmX7 hown hK hP hD hS 0 tsite_130 rfl 4 (by decide) (hts (.fieldLink RX7 42 "Slewfree" "log" "LSlewfree$Log;") (by decide +kernel)) (fun _ h9 => h9) rfl hin rfl (by decide +kernel) rfl rfl (Nat.le_of_ble_eq_true rfl) dX7_init_130 (fun H locs hP hD hS => ?_)
                    have hP : va_P D vwCl ((pw (62) aL EL).set 0 (x0, .inr (9, [.ref q5, .ref q17, .ref q53, .ref q89, .ref q123, .int (zI 0), .int (zI 0), .int (zI 0), .int (zI 0)]))) H := hP
                    have hD : va_D A ((pw (62) aL EL).set 0 (x0, .inr (9, [.ref q5, .ref q17, .ref q53, .ref q89, .ref q123, .int (zI 0), .int (zI 0), .int (zI 0), .int (zI 0)]))) := hD
                    rw [pw_set Gsite_L (by omega)] at hP hD
                    obtain ⟨E130, hE130⟩ : ∃ z : Nat → va_E, z = upN EL 0 (.inr (9, [.ref q5, .ref q17, .ref q53, .ref q89, .ref q123, .int (zI 0), .int (zI 0), .int (zI 0), .int (zI 0)])) := ⟨_, rfl⟩
                    rw [← hE130] at hP hD
                    have Fwea_E130 : E130 (1) = .inr (7, [.int (zI 0), .int (zI 31), .int (zI 0), .int (zI 0), .int (zI 0), .int (zI 0), .int (zI 0)]) := by have h9 := congrFun hE130 (1); rw [upN_n (by omega)] at h9; exact h9.trans Fwea_L
                    have Fcra_E130 : E130 2 = .inl (y17, 3, .inr (.inr (.inr (.inr fcra)))) := by have h9 := congrFun hE130 2; rw [upN_n (by omega)] at h9; exact h9.trans Fcra_L
                    have Fecra_E130 : ∀ j, j < 3 → E130 (3 + j) = .inr (2, [.int (zI (j : Int)), .int (zI 0), .int (zI 0), .int (zI 0), .int (zI 0), .int (zI 0), .int (zI 0), .int (zI 0), .int (zI 0), .int (zI 0), .int (zI 0), .int (zI 0)]) := fun j hj => by rw [hE130, upN_n (by omega)]; exact Fecra_L j hj
                    have Fzon_E130 : E130 6 = .inl (y53, 6, .inr (.inr (.inr (.inr fzon)))) := by have h9 := congrFun hE130 6; rw [upN_n (by omega)] at h9; exact h9.trans Fzon_L
                    have Fezon_E130 : ∀ j, j < 6 → E130 (7 + j) = .inr (8, [.int (zI 0), .int (zI 0), .int (zI 0), .int (zI 0), .int (zI 0)]) := fun j hj => by rw [hE130, upN_n (by omega)]; exact Fezon_L j hj
                    have Fmee_E130 : E130 13 = .inl (y89, 6, .inr (.inr (.inr (.inr fmee)))) := by have h9 := congrFun hE130 13; rw [upN_n (by omega)] at h9; exact h9.trans Fmee_L
                    have Femee_E130 : ∀ j, j < 6 → E130 (14 + j) = .inr (4, [.int (zI 0), .int (zI 0), .int (zI 0), .int (zI 0)]) := fun j hj => by rw [hE130, upN_n (by omega)]; exact Femee_L j hj
                    have Fsite_E130 : E130 0 = .inr (9, [.ref q5, .ref q17, .ref q53, .ref q89, .ref q123, .int (zI 0), .int (zI 0), .int (zI 0), .int (zI 0)]) := by rw [hE130]; exact upN_s _ _ _
                    have k20 : E130 20 = .inr (3, [.ref (aL 21), .int (zI 0), .int (zI 0), .int (zI 1)]) := by have h9 := congrFun hE130 20; rw [upN_n (by omega)] at h9; exact h9.trans g20
                    have k21 : E130 21 = .inl (yL, 40, .inr (.inr (.inr (.inr fL)))) := by have h9 := congrFun hE130 21; rw [upN_n (by omega)] at h9; exact h9.trans g21
                    have k22 : ∀ j, j < 40 → E130 (22 + j) = .inr (5, fP (fun _ => 0)) := fun j hj => by have h9 := congrFun hE130 (22 + j); rw [upN_n (by omega)] at h9; exact h9.trans (g22 j hj)
                    obtain ⟨cy, hcy⟩ : ∃ z : Nat → ClassId, z = fun i => if i = 0 then y17 else if i = 1 then y53 else if i = 2 then y89 else yL := ⟨_, rfl⟩
                    have hc0 : cy 0 = y17 := by rw [hcy]; rfl
                    have hc1 : cy 1 = y53 := by rw [hcy]; rfl
                    have hc2 : cy 2 = y89 := by rw [hcy]; rfl
                    have hc3 : cy 3 = yL := by rw [hcy]; rfl
                    have hKw : va_K D vwCl (wty cy) s := by
                      unfold wty
                      rw [hc0, hc1, hc2, hc3]
                      exact hK
                    have hPw : va_P D vwCl (wld cy aL (fun i => i) σI) H := by
                      intro k x hxk
                      obtain ⟨hk9, rfl⟩ := wld_inv hxk
                      have h9 := hP k _ (pw_get hk9)
                      show va_at D vwCl (aL k, wcell cy aL (fun i => i) (σI k) k) H
                      by_cases c0 : k = 0
                      · subst c0
                        rw [Fsite_E130] at h9
                        have e9 : wcell cy aL (fun i => i) (σI 0) 0 = .inr (9, [.ref q5, .ref q17, .ref q53, .ref q89, .ref q123, .int (zI 0), .int (zI 0), .int (zI 0), .int (zI 0)]) := by
                          rw [wc_S, sI_0 (by omega) (by omega) (by omega)]
                          unfold fS
                          rw [Gwea_L, Gcra_L, Gzon_L, Gmee_L, Glog_L]
                        rw [e9]; exact h9
                      by_cases c1 : k = 1
                      · subst c1
                        rw [Fwea_E130] at h9
                        exact h9
                      by_cases c2 : k = 2
                      · subst c2
                        rw [Fcra_E130] at h9
                        have h8 := va_at_q (g := fun i => some (aL (3 + i))) h9 (fun j hj => by rw [hfjcra j hj, Gecra_L j hj])
                        rw [← hc0] at h8
                        exact h8
                      by_cases c3 : k < 6
                      · obtain ⟨j, rfl⟩ : ∃ j, k = 3 + j := ⟨k - 3, by omega⟩
                        rw [Fecra_E130 j (by omega)] at h9
                        rw [wc_C (by omega), sI_C (by omega)]
                        exact h9
                      by_cases c6 : k = 6
                      · subst c6
                        rw [Fzon_E130] at h9
                        have h8 := va_at_q (g := fun i => some (aL (7 + i))) h9 (fun j hj => by rw [hfjzon j hj, Gezon_L j hj])
                        rw [← hc1] at h8
                        exact h8
                      by_cases c7 : k < 13
                      · obtain ⟨j, rfl⟩ : ∃ j, k = 7 + j := ⟨k - 7, by omega⟩
                        rw [Fezon_E130 j (by omega)] at h9
                        rw [wc_Z (by omega), sI_0 (by omega) (by omega) (by omega)]
                        exact h9
                      by_cases c13 : k = 13
                      · subst c13
                        rw [Fmee_E130] at h9
                        have h8 := va_at_q (g := fun i => some (aL (14 + i))) h9 (fun j hj => by rw [hfjmee j hj, Gemee_L j hj])
                        rw [← hc2] at h8
                        exact h8
                      by_cases c14 : k < 20
                      · obtain ⟨j, rfl⟩ : ∃ j, k = 14 + j := ⟨k - 14, by omega⟩
                        rw [Femee_E130 j (by omega)] at h9
                        rw [wc_M (by omega), sI_0 (by omega) (by omega) (by omega)]
                        exact h9
                      by_cases c20 : k = 20
                      · subst c20
                        rw [k20] at h9
                        exact h9
                      by_cases c21 : k = 21
                      · subst c21
                        rw [k21] at h9
                        have h8 := va_at_q (g := fun i => some (aL (22 + (fun i => i) i))) h9 (fun j hj => gf j hj)
                        rw [← hc3] at h8
                        exact h8
                      obtain ⟨j, rfl⟩ : ∃ j, k = 22 + j := ⟨k - 22, by omega⟩
                      rw [k22 j (by omega)] at h9
                      rw [wc_P, sI_0 (by omega) (by omega) (by omega)]
                      exact h9
                    have hDw : va_D A (wld cy aL (fun i => i) σI) := pw_wd hD
                    refine W.widen (k := 61) (n := 436) (by omega) (by omega) ?_
                    exact W.vret hx hb hr (fun t9 ht hW => ⟨⟨(aL, cy), rfl, Gsite_L, by show va_P D vwCl _ t9.heap; rw [ht]; exact hPw, hDw, va_K.moved hW.alike hKw⟩, hS.F ht⟩) hS.2.2 dX7_init_133
                  · skip
                    refine lv_aload_n hx hb dX7_init_103 rfl (lv_at hl 0 rfl) ?_
                    have tsite_104 : (pw (14 + i) a E)[0]? = some ((x0, .inr (9, [.ref q5, .ref q17, .ref q53, .ref q89, .null, .int (zI 0), .int (zI 0), .int (zI 0), .int (zI 0)])) : Nat × va_E) := by rw [pw_get (by omega), Gsite_h, Fsite_h]
                    refine va_get (D := D) (ci := 9) (v := .ref (q89)) (C := RX7) (T := TX7) (N := 9) hx hb hts inX7 hown hK hP 0 tsite_104 rfl 3 (by decide) (hts (.fieldLink RX7 34 "Slewfree" "meetings" "[LSlewfree$Meeting;") (by decide +kernel)) (fun _ h9 => h9) rfl dX7_init_104 ?_
                    refine lv_iload_n hx hb dX7_init_107 rfl (lv_at hl 1 rfl) ?_
                    refine w_new (ci := 4) (fs := [.int (zI 0), .int (zI 0), .int (zI 0), .int (zI 0)]) (C := RX2) (T := TX2) (N := 4) hx hb hts inX2 tyX2 tyX2_ok hown (hts (.classLink RX7 32 RX2) (by decide +kernel)) (hts (.instantiable RX2 4) (by decide +kernel)) (hts (.initialized RX2) (by decide +kernel)) hK hP hD hS hA rfl (fun j hj => by rcases (show j = 0 ∨ j = 1 ∨ j = 2 ∨ j = 3 by omega) with rfl | rfl | rfl | rfl <;> rfl) (show 0 + 1 + 0 + 1 + 3 + 1 + 6 + 1 + i + 1 ≤ 61 by omega) (show 0 + 7 + 0 + 3 + 3 * 12 + 6 + 6 * 5 + 6 + i * 4 + 4 ≤ 436 by omega) dX7_init_108 (fun q108 H hxq hsz1 ho1 hP hD hS1 => ?_)
                    have hS := hS1
                    rw [pw_app] at hP hD
                    obtain ⟨a108, ha108⟩ : ∃ z : Nat → Nat, z = upN a (14 + i) q108 := ⟨_, rfl⟩
                    obtain ⟨E108, hE108⟩ : ∃ z : Nat → va_E, z = upN E (14 + i) (.inr (4, [.int (zI 0), .int (zI 0), .int (zI 0), .int (zI 0)])) := ⟨_, rfl⟩
                    rw [← ha108, ← hE108] at hP hD
                    have Fwea_E108 : E108 (1) = .inr (7, [.int (zI 0), .int (zI 31), .int (zI 0), .int (zI 0), .int (zI 0), .int (zI 0), .int (zI 0)]) := by have h9 := congrFun hE108 (1); rw [upN_n (by omega)] at h9; exact h9.trans Fwea_h
                    have Fcra_E108 : E108 2 = .inl (y17, 3, .inr (.inr (.inr (.inr fcra)))) := by have h9 := congrFun hE108 2; rw [upN_n (by omega)] at h9; exact h9.trans Fcra_h
                    have Fecra_E108 : ∀ j, j < 3 → E108 (3 + j) = .inr (2, [.int (zI (j : Int)), .int (zI 0), .int (zI 0), .int (zI 0), .int (zI 0), .int (zI 0), .int (zI 0), .int (zI 0), .int (zI 0), .int (zI 0), .int (zI 0), .int (zI 0)]) := fun j hj => by rw [hE108, upN_n (by omega)]; exact Fecra_h j hj
                    have Fzon_E108 : E108 6 = .inl (y53, 6, .inr (.inr (.inr (.inr fzon)))) := by have h9 := congrFun hE108 6; rw [upN_n (by omega)] at h9; exact h9.trans Fzon_h
                    have Fezon_E108 : ∀ j, j < 6 → E108 (7 + j) = .inr (8, [.int (zI 0), .int (zI 0), .int (zI 0), .int (zI 0), .int (zI 0)]) := fun j hj => by rw [hE108, upN_n (by omega)]; exact Fezon_h j hj
                    have Fsite_E108 : E108 0 = .inr (9, [.ref q5, .ref q17, .ref q53, .ref q89, .null, .int (zI 0), .int (zI 0), .int (zI 0), .int (zI 0)]) := by have h9 := congrFun hE108 0; rw [upN_n (by omega)] at h9; exact h9.trans Fsite_h
                    have Fmee_E108 : E108 13 = .inl (y89, 6, .inr (.inr (.inr (.inr f)))) := by have h9 := congrFun hE108 13; rw [upN_n (by omega)] at h9; exact h9.trans Fmee_h
                    have Fel_E108 : ∀ j, j < i → E108 (14 + j) = .inr (4, [.int (zI 0), .int (zI 0), .int (zI 0), .int (zI 0)]) := fun j hj => by rw [hE108, upN_n (by omega)]; exact Fel_h j hj
                    have Gsite_a108 : a108 0 = x0 := by have h9 := congrFun ha108 0; rw [upN_n (by omega)] at h9; exact h9.trans Gsite_h
                    have Gwea_a108 : a108 (1) = q5 := by have h9 := congrFun ha108 (1); rw [upN_n (by omega)] at h9; exact h9.trans Gwea_h
                    have Gcra_a108 : a108 (1 + 1) = q17 := by have h9 := congrFun ha108 (1 + 1); rw [upN_n (by omega)] at h9; exact h9.trans Gcra_h
                    have Gecra_a108 : ∀ j, j < 3 → a108 (3 + j) = αcra (3 + j) := fun j hj => by rw [ha108, upN_n (by omega)]; exact Gecra_h j hj
                    have Gzon_a108 : a108 (6) = q53 := by have h9 := congrFun ha108 (6); rw [upN_n (by omega)] at h9; exact h9.trans Gzon_h
                    have Gezon_a108 : ∀ j, j < 6 → a108 (7 + j) = αzon (7 + j) := fun j hj => by rw [ha108, upN_n (by omega)]; exact Gezon_h j hj
                    have Gmee_a108 : a108 (13) = q89 := by have h9 := congrFun ha108 (13); rw [upN_n (by omega)] at h9; exact h9.trans Gmee_h
                    have Fnw_E108 : E108 (14 + i) = .inr (4, [.int (zI 0), .int (zI 0), .int (zI 0), .int (zI 0)]) := by rw [hE108]; exact upN_s _ _ _
                    have Gnw_a108 : a108 (14 + i) = q108 := by rw [ha108]; exact upN_s _ _ _
                    refine lv_dup hx hb dX7_init_111 rfl ?_
                    have tnw_112 : (pw (14 + i + 1) a108 E108)[(14 + i)]? = some ((q108, .inr (4, [.int (zI 0), .int (zI 0), .int (zI 0), .int (zI 0)])) : Nat × va_E) := by rw [pw_get (by omega), Gnw_a108, Fnw_E108]
                    refine va_callv (va_runIN (As := []) (rest := [.ref (q108), .int (zI ((i : Int))), .ref (q89)]) ⟨hx, hb, hml, hown, hts⟩ (c_X2_init l D A H.size (fun y h => hA y (Nat.le_trans hS.1 h)) _ q108 (14 + i) tnw_112) ⟨va_cnB 0 hts gX7_init_X2_init_n38 rfl rfl rfl hN2 (hts (.initialized RX2) (by decide +kernel)) (by decide +kernel) ⟨Nat.le_of_ble_eq_true rfl, Nat.le_of_ble_eq_true rfl⟩, rfl, hts (.instanceMethod yX2_init) (by decide +kernel)⟩ ⟨nW_blind, fun U hU hW => ⟨rfl, by rw [hU], nW_mk hP hD hK hU hW⟩⟩ rfl rfl hl.1 rfl (lv_room (Nat.le_of_ble_eq_true rfl)) dX7_init_112 ⟨(show 0 + 1 + 0 + 1 + 3 + 1 + 6 + 1 + i + 1 + 0 ≤ 61 by omega), (show 0 + 7 + 0 + 3 + 3 * 12 + 6 + 6 * 5 + 6 + i * 4 + 4 + 0 ≤ 436 by omega)⟩) hS (fun _ _ h => h.elim) (fun _ h => h) (fun u9 t9 H locs ht hvm hw hB hz hk hS1 => ?_)
                    have hP := hP.kept (fun k x hk9 => hk x.1 ((hP k x hk9).lt) (fun h => h))
                    have hS := hS1
                    have tmee_115 : (pw (14 + i + 1) a108 E108)[13]? = some ((q89, .inl (y89, 6, .inr (.inr (.inr (.inr f))))) : Nat × va_E) := by rw [pw_get (by omega), Gmee_a108, Fmee_E108]
                    have tnw_115 : (pw (14 + i + 1) a108 E108)[(14 + i)]? = some ((q108, .inr (4, [.int (zI 0), .int (zI 0), .int (zI 0), .int (zI 0)])) : Nat × va_E) := by rw [pw_get (by omega), Gnw_a108, Fnw_E108]
                    refine va_astq (r := (RX2, TX2, 4)) hx hb hK hP hD hS 13 2 (14 + i) 4 tmee_115 rfl tnw_115 rfl (zI_in (by omega) (by omega) (by omega)) dX7_init_115 (fun H locs hP hD hS => ?_)
                    rw [zI_clamp (by omega) (by omega), Int.toNat_natCast] at hP hD
                    have hP : va_P D vwCl ((pw (14 + i + 1) a108 E108).set 13 (q89, .inl (y89, 6, .inr (.inr (.inr (.inr (va_up f i (some q108)))))))) H := hP
                    have hD : va_D A ((pw (14 + i + 1) a108 E108).set 13 (q89, .inl (y89, 6, .inr (.inr (.inr (.inr (va_up f i (some q108)))))))) := hD
                    rw [pw_set Gmee_a108 (by omega)] at hP hD
                    obtain ⟨E115, hE115⟩ : ∃ z : Nat → va_E, z = upN E108 13 (.inl (y89, 6, .inr (.inr (.inr (.inr (va_up f i (some q108))))))) := ⟨_, rfl⟩
                    rw [← hE115] at hP hD
                    have Fwea_E115 : E115 (1) = .inr (7, [.int (zI 0), .int (zI 31), .int (zI 0), .int (zI 0), .int (zI 0), .int (zI 0), .int (zI 0)]) := by have h9 := congrFun hE115 (1); rw [upN_n (by omega)] at h9; exact h9.trans Fwea_E108
                    have Fcra_E115 : E115 2 = .inl (y17, 3, .inr (.inr (.inr (.inr fcra)))) := by have h9 := congrFun hE115 2; rw [upN_n (by omega)] at h9; exact h9.trans Fcra_E108
                    have Fecra_E115 : ∀ j, j < 3 → E115 (3 + j) = .inr (2, [.int (zI (j : Int)), .int (zI 0), .int (zI 0), .int (zI 0), .int (zI 0), .int (zI 0), .int (zI 0), .int (zI 0), .int (zI 0), .int (zI 0), .int (zI 0), .int (zI 0)]) := fun j hj => by rw [hE115, upN_n (by omega)]; exact Fecra_E108 j hj
                    have Fzon_E115 : E115 6 = .inl (y53, 6, .inr (.inr (.inr (.inr fzon)))) := by have h9 := congrFun hE115 6; rw [upN_n (by omega)] at h9; exact h9.trans Fzon_E108
                    have Fezon_E115 : ∀ j, j < 6 → E115 (7 + j) = .inr (8, [.int (zI 0), .int (zI 0), .int (zI 0), .int (zI 0), .int (zI 0)]) := fun j hj => by rw [hE115, upN_n (by omega)]; exact Fezon_E108 j hj
                    have Fsite_E115 : E115 0 = .inr (9, [.ref q5, .ref q17, .ref q53, .ref q89, .null, .int (zI 0), .int (zI 0), .int (zI 0), .int (zI 0)]) := by have h9 := congrFun hE115 0; rw [upN_n (by omega)] at h9; exact h9.trans Fsite_E108
                    have Fel_E115 : ∀ j, j < i → E115 (14 + j) = .inr (4, [.int (zI 0), .int (zI 0), .int (zI 0), .int (zI 0)]) := fun j hj => by rw [hE115, upN_n (by omega)]; exact Fel_E108 j hj
                    have Fnw_E115 : E115 (14 + i) = .inr (4, [.int (zI 0), .int (zI 0), .int (zI 0), .int (zI 0)]) := by have h9 := congrFun hE115 (14 + i); rw [upN_n (by omega)] at h9; exact h9.trans Fnw_E108
                    have Fmee_E115 : E115 13 = .inl (y89, 6, .inr (.inr (.inr (.inr (va_up f i (some q108)))))) := by rw [hE115]; exact upN_s _ _ _
                    refine lv_iinc (v := zI (((i + 1 : Nat) : Int))) (lv' := [(1, .int (zI ((i + 1 : Nat) : Int))), (0, .ref (x0))]) hx hb dX7_init_116 hl (k := 1) rfl (by rw [show ((i + 1 : Nat) : Int) = (i : Int) + 1 by omega]; exact zI_add _ _) (by decide) rfl (fun ls hl => ?_)
                    refine lv_goto (tgt := 97) hx hb dX7_init_119 (by decide) ?_
                    refine W.widen (k := 0 + 1 + 0 + 1 + 3 + 1 + 6 + 1 + (i + 1)) (n := 0 + 7 + 0 + 3 + 3 * 12 + 6 + 6 * 5 + 6 + (i + 1) * 4) (by omega) (by omega) ?_
                    have hai : ∀ j, j < i → a108 (14 + j) = a (14 + j) := fun j hj => by rw [ha108, upN_n (by omega)]
                    exact ih (i + 1) a108 E115 H locs ls (by omega) (by omega) Fwea_E115 Fcra_E115 Fecra_E115 Fzon_E115 Fezon_E115 Fsite_E115 Gsite_a108 Gwea_a108 Gcra_a108 Gecra_a108 Gzon_a108 Gezon_a108 Gmee_a108 ⟨_, Fmee_E115, fun j hj => by
                      unfold va_up
                      by_cases e : j = i
                      · rw [if_pos e, e, Gnw_a108]
                      · rw [if_neg e, hai j (by omega)]; exact hfj j (by omega)⟩ (fun j hj => by
                      by_cases e : j = i
                      · rw [e]; exact Fnw_E115
                      · exact Fel_E115 j (by omega)) hP hD hS (by have h9 := lv_sub hl [1, 0] rfl; exact h9)
              exact loop97 7 0 a89 E92 H locs ls (by omega) (by omega) Fwea_E92 Fcra_E92 Fecra_E92 Fzon_E92 Fezon_E92 Fsite_E92 Gsite_a89 Gwea_a89 Gcra_a89 Gecra_a89 Gzon_a89 Gezon_a89 Gmee_a89 ⟨_, Fmee_E92, fun j hj => absurd hj (Nat.not_lt_zero _)⟩ (fun j hj => absurd hj (Nat.not_lt_zero _)) hP hD hS (by have h9 := lv_sub hl [1, 0] rfl; exact h9)
            · skip
              refine lv_aload_n hx hb dX7_init_67 rfl (lv_at hl 0 rfl) ?_
              have tsite_68 : (pw (7 + i) a E)[0]? = some ((x0, .inr (9, [.ref q5, .ref q17, .ref q53, .null, .null, .int (zI 0), .int (zI 0), .int (zI 0), .int (zI 0)])) : Nat × va_E) := by rw [pw_get (by omega), Gsite_h, Fsite_h]
              refine va_get (D := D) (ci := 9) (v := .ref (q53)) (C := RX7) (T := TX7) (N := 9) hx hb hts inX7 hown hK hP 0 tsite_68 rfl 2 (by decide) (hts (.fieldLink RX7 27 "Slewfree" "zones" "[LSlewfree$Zone;") (by decide +kernel)) (fun _ h9 => h9) rfl dX7_init_68 ?_
              refine lv_iload_n hx hb dX7_init_71 rfl (lv_at hl 1 rfl) ?_
              refine w_new (ci := 8) (fs := [.int (zI 0), .int (zI 0), .int (zI 0), .int (zI 0), .int (zI 0)]) (C := RX6) (T := TX6) (N := 5) hx hb hts inX6 tyX6 tyX6_ok hown (hts (.classLink RX7 25 RX6) (by decide +kernel)) (hts (.instantiable RX6 5) (by decide +kernel)) (hts (.initialized RX6) (by decide +kernel)) hK hP hD hS hA rfl (fun j hj => by rcases (show j = 0 ∨ j = 1 ∨ j = 2 ∨ j = 3 ∨ j = 4 by omega) with rfl | rfl | rfl | rfl | rfl <;> rfl) (show 0 + 1 + 0 + 1 + 3 + 1 + i + 1 ≤ 61 by omega) (show 0 + 7 + 0 + 3 + 3 * 12 + 6 + i * 5 + 5 ≤ 436 by omega) dX7_init_72 (fun q72 H hxq hsz1 ho1 hP hD hS1 => ?_)
              have hS := hS1
              rw [pw_app] at hP hD
              obtain ⟨a72, ha72⟩ : ∃ z : Nat → Nat, z = upN a (7 + i) q72 := ⟨_, rfl⟩
              obtain ⟨E72, hE72⟩ : ∃ z : Nat → va_E, z = upN E (7 + i) (.inr (8, [.int (zI 0), .int (zI 0), .int (zI 0), .int (zI 0), .int (zI 0)])) := ⟨_, rfl⟩
              rw [← ha72, ← hE72] at hP hD
              have Fwea_E72 : E72 (1) = .inr (7, [.int (zI 0), .int (zI 31), .int (zI 0), .int (zI 0), .int (zI 0), .int (zI 0), .int (zI 0)]) := by have h9 := congrFun hE72 (1); rw [upN_n (by omega)] at h9; exact h9.trans Fwea_h
              have Fcra_E72 : E72 2 = .inl (y17, 3, .inr (.inr (.inr (.inr fcra)))) := by have h9 := congrFun hE72 2; rw [upN_n (by omega)] at h9; exact h9.trans Fcra_h
              have Fecra_E72 : ∀ j, j < 3 → E72 (3 + j) = .inr (2, [.int (zI (j : Int)), .int (zI 0), .int (zI 0), .int (zI 0), .int (zI 0), .int (zI 0), .int (zI 0), .int (zI 0), .int (zI 0), .int (zI 0), .int (zI 0), .int (zI 0)]) := fun j hj => by rw [hE72, upN_n (by omega)]; exact Fecra_h j hj
              have Fsite_E72 : E72 0 = .inr (9, [.ref q5, .ref q17, .ref q53, .null, .null, .int (zI 0), .int (zI 0), .int (zI 0), .int (zI 0)]) := by have h9 := congrFun hE72 0; rw [upN_n (by omega)] at h9; exact h9.trans Fsite_h
              have Fzon_E72 : E72 6 = .inl (y53, 6, .inr (.inr (.inr (.inr f)))) := by have h9 := congrFun hE72 6; rw [upN_n (by omega)] at h9; exact h9.trans Fzon_h
              have Fel_E72 : ∀ j, j < i → E72 (7 + j) = .inr (8, [.int (zI 0), .int (zI 0), .int (zI 0), .int (zI 0), .int (zI 0)]) := fun j hj => by rw [hE72, upN_n (by omega)]; exact Fel_h j hj
              have Gsite_a72 : a72 0 = x0 := by have h9 := congrFun ha72 0; rw [upN_n (by omega)] at h9; exact h9.trans Gsite_h
              have Gwea_a72 : a72 (1) = q5 := by have h9 := congrFun ha72 (1); rw [upN_n (by omega)] at h9; exact h9.trans Gwea_h
              have Gcra_a72 : a72 (1 + 1) = q17 := by have h9 := congrFun ha72 (1 + 1); rw [upN_n (by omega)] at h9; exact h9.trans Gcra_h
              have Gecra_a72 : ∀ j, j < 3 → a72 (3 + j) = αcra (3 + j) := fun j hj => by rw [ha72, upN_n (by omega)]; exact Gecra_h j hj
              have Gzon_a72 : a72 (6) = q53 := by have h9 := congrFun ha72 (6); rw [upN_n (by omega)] at h9; exact h9.trans Gzon_h
              have Fnw_E72 : E72 (7 + i) = .inr (8, [.int (zI 0), .int (zI 0), .int (zI 0), .int (zI 0), .int (zI 0)]) := by rw [hE72]; exact upN_s _ _ _
              have Gnw_a72 : a72 (7 + i) = q72 := by rw [ha72]; exact upN_s _ _ _
              refine lv_dup hx hb dX7_init_75 rfl ?_
              have tnw_76 : (pw (7 + i + 1) a72 E72)[(7 + i)]? = some ((q72, .inr (8, [.int (zI 0), .int (zI 0), .int (zI 0), .int (zI 0), .int (zI 0)])) : Nat × va_E) := by rw [pw_get (by omega), Gnw_a72, Fnw_E72]
              refine va_callv (va_runIN (As := []) (rest := [.ref (q72), .int (zI ((i : Int))), .ref (q53)]) ⟨hx, hb, hml, hown, hts⟩ (c_X6_init l D A H.size (fun y h => hA y (Nat.le_trans hS.1 h)) _ q72 (7 + i) tnw_76) ⟨va_cnB 0 hts gX7_init_X6_init_n31 rfl rfl rfl hN6 (hts (.initialized RX6) (by decide +kernel)) (by decide +kernel) ⟨Nat.le_of_ble_eq_true rfl, Nat.le_of_ble_eq_true rfl⟩, rfl, hts (.instanceMethod yX6_init) (by decide +kernel)⟩ ⟨nW_blind, fun U hU hW => ⟨rfl, by rw [hU], nW_mk hP hD hK hU hW⟩⟩ rfl rfl hl.1 rfl (lv_room (Nat.le_of_ble_eq_true rfl)) dX7_init_76 ⟨(show 0 + 1 + 0 + 1 + 3 + 1 + i + 1 + 0 ≤ 61 by omega), (show 0 + 7 + 0 + 3 + 3 * 12 + 6 + i * 5 + 5 + 0 ≤ 436 by omega)⟩) hS (fun _ _ h => h.elim) (fun _ h => h) (fun u9 t9 H locs ht hvm hw hB hz hk hS1 => ?_)
              have hP := hP.kept (fun k x hk9 => hk x.1 ((hP k x hk9).lt) (fun h => h))
              have hS := hS1
              have tzon_79 : (pw (7 + i + 1) a72 E72)[6]? = some ((q53, .inl (y53, 6, .inr (.inr (.inr (.inr f))))) : Nat × va_E) := by rw [pw_get (by omega), Gzon_a72, Fzon_E72]
              have tnw_79 : (pw (7 + i + 1) a72 E72)[(7 + i)]? = some ((q72, .inr (8, [.int (zI 0), .int (zI 0), .int (zI 0), .int (zI 0), .int (zI 0)])) : Nat × va_E) := by rw [pw_get (by omega), Gnw_a72, Fnw_E72]
              refine va_astq (r := (RX6, TX6, 5)) hx hb hK hP hD hS 6 1 (7 + i) 8 tzon_79 rfl tnw_79 rfl (zI_in (by omega) (by omega) (by omega)) dX7_init_79 (fun H locs hP hD hS => ?_)
              rw [zI_clamp (by omega) (by omega), Int.toNat_natCast] at hP hD
              have hP : va_P D vwCl ((pw (7 + i + 1) a72 E72).set 6 (q53, .inl (y53, 6, .inr (.inr (.inr (.inr (va_up f i (some q72)))))))) H := hP
              have hD : va_D A ((pw (7 + i + 1) a72 E72).set 6 (q53, .inl (y53, 6, .inr (.inr (.inr (.inr (va_up f i (some q72)))))))) := hD
              rw [pw_set Gzon_a72 (by omega)] at hP hD
              obtain ⟨E79, hE79⟩ : ∃ z : Nat → va_E, z = upN E72 6 (.inl (y53, 6, .inr (.inr (.inr (.inr (va_up f i (some q72))))))) := ⟨_, rfl⟩
              rw [← hE79] at hP hD
              have Fwea_E79 : E79 (1) = .inr (7, [.int (zI 0), .int (zI 31), .int (zI 0), .int (zI 0), .int (zI 0), .int (zI 0), .int (zI 0)]) := by have h9 := congrFun hE79 (1); rw [upN_n (by omega)] at h9; exact h9.trans Fwea_E72
              have Fcra_E79 : E79 2 = .inl (y17, 3, .inr (.inr (.inr (.inr fcra)))) := by have h9 := congrFun hE79 2; rw [upN_n (by omega)] at h9; exact h9.trans Fcra_E72
              have Fecra_E79 : ∀ j, j < 3 → E79 (3 + j) = .inr (2, [.int (zI (j : Int)), .int (zI 0), .int (zI 0), .int (zI 0), .int (zI 0), .int (zI 0), .int (zI 0), .int (zI 0), .int (zI 0), .int (zI 0), .int (zI 0), .int (zI 0)]) := fun j hj => by rw [hE79, upN_n (by omega)]; exact Fecra_E72 j hj
              have Fsite_E79 : E79 0 = .inr (9, [.ref q5, .ref q17, .ref q53, .null, .null, .int (zI 0), .int (zI 0), .int (zI 0), .int (zI 0)]) := by have h9 := congrFun hE79 0; rw [upN_n (by omega)] at h9; exact h9.trans Fsite_E72
              have Fel_E79 : ∀ j, j < i → E79 (7 + j) = .inr (8, [.int (zI 0), .int (zI 0), .int (zI 0), .int (zI 0), .int (zI 0)]) := fun j hj => by rw [hE79, upN_n (by omega)]; exact Fel_E72 j hj
              have Fnw_E79 : E79 (7 + i) = .inr (8, [.int (zI 0), .int (zI 0), .int (zI 0), .int (zI 0), .int (zI 0)]) := by have h9 := congrFun hE79 (7 + i); rw [upN_n (by omega)] at h9; exact h9.trans Fnw_E72
              have Fzon_E79 : E79 6 = .inl (y53, 6, .inr (.inr (.inr (.inr (va_up f i (some q72)))))) := by rw [hE79]; exact upN_s _ _ _
              refine lv_iinc (v := zI (((i + 1 : Nat) : Int))) (lv' := [(1, .int (zI ((i + 1 : Nat) : Int))), (0, .ref (x0))]) hx hb dX7_init_80 hl (k := 1) rfl (by rw [show ((i + 1 : Nat) : Int) = (i : Int) + 1 by omega]; exact zI_add _ _) (by decide) rfl (fun ls hl => ?_)
              refine lv_goto (tgt := 61) hx hb dX7_init_83 (by decide) ?_
              refine W.widen (k := 0 + 1 + 0 + 1 + 3 + 1 + (i + 1)) (n := 0 + 7 + 0 + 3 + 3 * 12 + 6 + (i + 1) * 5) (by omega) (by omega) ?_
              have hai : ∀ j, j < i → a72 (7 + j) = a (7 + j) := fun j hj => by rw [ha72, upN_n (by omega)]
              exact ih (i + 1) a72 E79 H locs ls (by omega) (by omega) Fwea_E79 Fcra_E79 Fecra_E79 Fsite_E79 Gsite_a72 Gwea_a72 Gcra_a72 Gecra_a72 Gzon_a72 ⟨_, Fzon_E79, fun j hj => by
                unfold va_up
                by_cases e : j = i
                · rw [if_pos e, e, Gnw_a72]
                · rw [if_neg e, hai j (by omega)]; exact hfj j (by omega)⟩ (fun j hj => by
                by_cases e : j = i
                · rw [e]; exact Fnw_E79
                · exact Fel_E79 j (by omega)) hP hD hS (by have h9 := lv_sub hl [1, 0] rfl; exact h9)
        exact loop61 7 0 a53 E56 H locs ls (by omega) (by omega) Fwea_E56 Fcra_E56 Fecra_E56 Fsite_E56 Gsite_a53 Gwea_a53 Gcra_a53 Gecra_a53 Gzon_a53 ⟨_, Fzon_E56, fun j hj => absurd hj (Nat.not_lt_zero _)⟩ (fun j hj => absurd hj (Nat.not_lt_zero _)) hP hD hS (by have h9 := lv_sub hl [1, 0] rfl; exact h9)
      · skip
        refine lv_aload_n hx hb dX7_init_30 rfl (lv_at hl 0 rfl) ?_
        have tsite_31 : (pw (3 + i) a E)[0]? = some ((x0, .inr (9, [.ref q5, .ref q17, .null, .null, .null, .int (zI 0), .int (zI 0), .int (zI 0), .int (zI 0)])) : Nat × va_E) := by rw [pw_get (by omega), Gsite_h, Fsite_h]
        refine va_get (D := D) (ci := 9) (v := .ref (q17)) (C := RX7) (T := TX7) (N := 9) hx hb hts inX7 hown hK hP 0 tsite_31 rfl 1 (by decide) (hts (.fieldLink RX7 18 "Slewfree" "cranes" "[LSlewfree$Crane;") (by decide +kernel)) (fun _ h9 => h9) rfl dX7_init_31 ?_
        refine lv_iload_n hx hb dX7_init_34 rfl (lv_at hl 1 rfl) ?_
        refine w_new (ci := 2) (fs := [.int (zI 0), .int (zI 0), .int (zI 0), .int (zI 0), .int (zI 0), .int (zI 0), .int (zI 0), .int (zI 0), .int (zI 0), .int (zI 0), .int (zI 0), .int (zI 0)]) (C := RX0) (T := TX0) (N := 12) hx hb hts inX0 tyX0 tyX0_ok hown (hts (.classLink RX7 16 RX0) (by decide +kernel)) (hts (.instantiable RX0 12) (by decide +kernel)) (hts (.initialized RX0) (by decide +kernel)) hK hP hD hS hA rfl (fun j hj => by rcases (show j = 0 ∨ j = 1 ∨ j = 2 ∨ j = 3 ∨ j = 4 ∨ j = 5 ∨ j = 6 ∨ j = 7 ∨ j = 8 ∨ j = 9 ∨ j = 10 ∨ j = 11 by omega) with rfl | rfl | rfl | rfl | rfl | rfl | rfl | rfl | rfl | rfl | rfl | rfl <;> rfl) (show 0 + 1 + 0 + 1 + i + 1 ≤ 61 by omega) (show 0 + 7 + 0 + 3 + i * 12 + 12 ≤ 436 by omega) dX7_init_35 (fun q35 H hxq hsz1 ho1 hP hD hS1 => ?_)
        have hS := hS1
        rw [pw_app] at hP hD
        obtain ⟨a35, ha35⟩ : ∃ z : Nat → Nat, z = upN a (3 + i) q35 := ⟨_, rfl⟩
        obtain ⟨E35, hE35⟩ : ∃ z : Nat → va_E, z = upN E (3 + i) (.inr (2, [.int (zI 0), .int (zI 0), .int (zI 0), .int (zI 0), .int (zI 0), .int (zI 0), .int (zI 0), .int (zI 0), .int (zI 0), .int (zI 0), .int (zI 0), .int (zI 0)])) := ⟨_, rfl⟩
        rw [← ha35, ← hE35] at hP hD
        have Fwea_E35 : E35 (1) = .inr (7, [.int (zI 0), .int (zI 31), .int (zI 0), .int (zI 0), .int (zI 0), .int (zI 0), .int (zI 0)]) := by have h9 := congrFun hE35 (1); rw [upN_n (by omega)] at h9; exact h9.trans Fwea_h
        have Fsite_E35 : E35 0 = .inr (9, [.ref q5, .ref q17, .null, .null, .null, .int (zI 0), .int (zI 0), .int (zI 0), .int (zI 0)]) := by have h9 := congrFun hE35 0; rw [upN_n (by omega)] at h9; exact h9.trans Fsite_h
        have Fcra_E35 : E35 2 = .inl (y17, 3, .inr (.inr (.inr (.inr f)))) := by have h9 := congrFun hE35 2; rw [upN_n (by omega)] at h9; exact h9.trans Fcra_h
        have Fel_E35 : ∀ j, j < i → E35 (3 + j) = .inr (2, [.int (zI (j : Int)), .int (zI 0), .int (zI 0), .int (zI 0), .int (zI 0), .int (zI 0), .int (zI 0), .int (zI 0), .int (zI 0), .int (zI 0), .int (zI 0), .int (zI 0)]) := fun j hj => by rw [hE35, upN_n (by omega)]; exact Fel_h j hj
        have Gsite_a35 : a35 0 = x0 := by have h9 := congrFun ha35 0; rw [upN_n (by omega)] at h9; exact h9.trans Gsite_h
        have Gwea_a35 : a35 (1) = q5 := by have h9 := congrFun ha35 (1); rw [upN_n (by omega)] at h9; exact h9.trans Gwea_h
        have Gcra_a35 : a35 (1 + 1) = q17 := by have h9 := congrFun ha35 (1 + 1); rw [upN_n (by omega)] at h9; exact h9.trans Gcra_h
        have Fnw_E35 : E35 (3 + i) = .inr (2, [.int (zI 0), .int (zI 0), .int (zI 0), .int (zI 0), .int (zI 0), .int (zI 0), .int (zI 0), .int (zI 0), .int (zI 0), .int (zI 0), .int (zI 0), .int (zI 0)]) := by rw [hE35]; exact upN_s _ _ _
        have Gnw_a35 : a35 (3 + i) = q35 := by rw [ha35]; exact upN_s _ _ _
        refine lv_dup hx hb dX7_init_38 rfl ?_
        refine lv_iload_n hx hb dX7_init_39 rfl (lv_at hl 1 rfl) ?_
        have tnw_40 : (pw (3 + i + 1) a35 E35)[(3 + i)]? = some ((q35, .inr (2, [.int (zI 0), .int (zI 0), .int (zI 0), .int (zI 0), .int (zI 0), .int (zI 0), .int (zI 0), .int (zI 0), .int (zI 0), .int (zI 0), .int (zI 0), .int (zI 0)])) : Nat × va_E) := by rw [pw_get (by omega), Gnw_a35, Fnw_E35]
        refine va_callv (va_runI (As := [.int (zI ((i : Int)))]) (rest := [.ref (q35), .int (zI ((i : Int))), .ref (q17)]) ⟨hx, hb, hml, hown, hts⟩ (c_X0_init l D A H.size (fun y h => hA y (Nat.le_trans hS.1 h)) _ q35 ((i : Int)) (3 + i) tnw_40) (cwI 1 hts gX7_init_X0_init rfl rfl rfl (hts (.initialized RX0) (by decide +kernel)) (hts (.methodLink RX7 22 yX0_init) (by decide +kernel)) (hts (.instanceMethod yX0_init) (by decide +kernel)) rfl (by decide +kernel) ⟨Nat.le_of_ble_eq_true rfl, Nat.le_of_ble_eq_true rfl⟩) ⟨nW_blind, fun U hU hW => ⟨rfl, by rw [hU], nW_mk hP hD hK hU hW⟩⟩ rfl rfl hl.1 rfl (lv_room (Nat.le_of_ble_eq_true rfl)) dX7_init_40 ⟨(show 0 + 1 + 0 + 1 + i + 1 + 0 ≤ 61 by omega), (show 0 + 7 + 0 + 3 + i * 12 + 12 + 0 ≤ 436 by omega)⟩) hS (fun _ _ h => h) (fun _ h => h) (fun u9 t9 H locs ht hvm hw hB hz hk hS1 => ?_)
        obtain ⟨hP9, hD9⟩ := hB
        rw [ht] at hP9
        have hP := hP9
        have hD := hD9
        have hP : va_P D vwCl ((pw (3 + i + 1) a35 E35).set (3 + i) (q35, .inr (2, [.int (zI (i : Int)), .int (zI 0), .int (zI 0), .int (zI 0), .int (zI 0), .int (zI 0), .int (zI 0), .int (zI 0), .int (zI 0), .int (zI 0), .int (zI 0), .int (zI 0)]))) H := hP
        have hD : va_D A ((pw (3 + i + 1) a35 E35).set (3 + i) (q35, .inr (2, [.int (zI (i : Int)), .int (zI 0), .int (zI 0), .int (zI 0), .int (zI 0), .int (zI 0), .int (zI 0), .int (zI 0), .int (zI 0), .int (zI 0), .int (zI 0), .int (zI 0)]))) := hD
        rw [pw_set Gnw_a35 (by omega)] at hP hD
        obtain ⟨E40, hE40⟩ : ∃ z : Nat → va_E, z = upN E35 (3 + i) (.inr (2, [.int (zI (i : Int)), .int (zI 0), .int (zI 0), .int (zI 0), .int (zI 0), .int (zI 0), .int (zI 0), .int (zI 0), .int (zI 0), .int (zI 0), .int (zI 0), .int (zI 0)])) := ⟨_, rfl⟩
        rw [← hE40] at hP hD
        have Fwea_E40 : E40 (1) = .inr (7, [.int (zI 0), .int (zI 31), .int (zI 0), .int (zI 0), .int (zI 0), .int (zI 0), .int (zI 0)]) := by have h9 := congrFun hE40 (1); rw [upN_n (by omega)] at h9; exact h9.trans Fwea_E35
        have Fsite_E40 : E40 0 = .inr (9, [.ref q5, .ref q17, .null, .null, .null, .int (zI 0), .int (zI 0), .int (zI 0), .int (zI 0)]) := by have h9 := congrFun hE40 0; rw [upN_n (by omega)] at h9; exact h9.trans Fsite_E35
        have Fcra_E40 : E40 2 = .inl (y17, 3, .inr (.inr (.inr (.inr f)))) := by have h9 := congrFun hE40 2; rw [upN_n (by omega)] at h9; exact h9.trans Fcra_E35
        have Fel_E40 : ∀ j, j < i → E40 (3 + j) = .inr (2, [.int (zI (j : Int)), .int (zI 0), .int (zI 0), .int (zI 0), .int (zI 0), .int (zI 0), .int (zI 0), .int (zI 0), .int (zI 0), .int (zI 0), .int (zI 0), .int (zI 0)]) := fun j hj => by rw [hE40, upN_n (by omega)]; exact Fel_E35 j hj
        have Fnw_E40 : E40 (3 + i) = .inr (2, [.int (zI (i : Int)), .int (zI 0), .int (zI 0), .int (zI 0), .int (zI 0), .int (zI 0), .int (zI 0), .int (zI 0), .int (zI 0), .int (zI 0), .int (zI 0), .int (zI 0)]) := by rw [hE40]; exact upN_s _ _ _
        have hS := hS1
        have tcra_43 : (pw (3 + i + 1) a35 E40)[2]? = some ((q17, .inl (y17, 3, .inr (.inr (.inr (.inr f))))) : Nat × va_E) := by rw [pw_get (by omega), Gcra_a35, Fcra_E40]
        have tnw_43 : (pw (3 + i + 1) a35 E40)[(3 + i)]? = some ((q35, .inr (2, [.int (zI (i : Int)), .int (zI 0), .int (zI 0), .int (zI 0), .int (zI 0), .int (zI 0), .int (zI 0), .int (zI 0), .int (zI 0), .int (zI 0), .int (zI 0), .int (zI 0)])) : Nat × va_E) := by rw [pw_get (by omega), Gnw_a35, Fnw_E40]
        refine va_astq (r := (RX0, TX0, 12)) hx hb hK hP hD hS 2 0 (3 + i) 2 tcra_43 rfl tnw_43 rfl (zI_in (by omega) (by omega) (by omega)) dX7_init_43 (fun H locs hP hD hS => ?_)
        rw [zI_clamp (by omega) (by omega), Int.toNat_natCast] at hP hD
        have hP : va_P D vwCl ((pw (3 + i + 1) a35 E40).set 2 (q17, .inl (y17, 3, .inr (.inr (.inr (.inr (va_up f i (some q35)))))))) H := hP
        have hD : va_D A ((pw (3 + i + 1) a35 E40).set 2 (q17, .inl (y17, 3, .inr (.inr (.inr (.inr (va_up f i (some q35)))))))) := hD
        rw [pw_set Gcra_a35 (by omega)] at hP hD
        obtain ⟨E43, hE43⟩ : ∃ z : Nat → va_E, z = upN E40 2 (.inl (y17, 3, .inr (.inr (.inr (.inr (va_up f i (some q35))))))) := ⟨_, rfl⟩
        rw [← hE43] at hP hD
        have Fwea_E43 : E43 (1) = .inr (7, [.int (zI 0), .int (zI 31), .int (zI 0), .int (zI 0), .int (zI 0), .int (zI 0), .int (zI 0)]) := by have h9 := congrFun hE43 (1); rw [upN_n (by omega)] at h9; exact h9.trans Fwea_E40
        have Fsite_E43 : E43 0 = .inr (9, [.ref q5, .ref q17, .null, .null, .null, .int (zI 0), .int (zI 0), .int (zI 0), .int (zI 0)]) := by have h9 := congrFun hE43 0; rw [upN_n (by omega)] at h9; exact h9.trans Fsite_E40
        have Fel_E43 : ∀ j, j < i → E43 (3 + j) = .inr (2, [.int (zI (j : Int)), .int (zI 0), .int (zI 0), .int (zI 0), .int (zI 0), .int (zI 0), .int (zI 0), .int (zI 0), .int (zI 0), .int (zI 0), .int (zI 0), .int (zI 0)]) := fun j hj => by rw [hE43, upN_n (by omega)]; exact Fel_E40 j hj
        have Fnw_E43 : E43 (3 + i) = .inr (2, [.int (zI (i : Int)), .int (zI 0), .int (zI 0), .int (zI 0), .int (zI 0), .int (zI 0), .int (zI 0), .int (zI 0), .int (zI 0), .int (zI 0), .int (zI 0), .int (zI 0)]) := by have h9 := congrFun hE43 (3 + i); rw [upN_n (by omega)] at h9; exact h9.trans Fnw_E40
        have Fcra_E43 : E43 2 = .inl (y17, 3, .inr (.inr (.inr (.inr (va_up f i (some q35)))))) := by rw [hE43]; exact upN_s _ _ _
        refine lv_iinc (v := zI (((i + 1 : Nat) : Int))) (lv' := [(1, .int (zI ((i + 1 : Nat) : Int))), (0, .ref (x0))]) hx hb dX7_init_44 hl (k := 1) rfl (by rw [show ((i + 1 : Nat) : Int) = (i : Int) + 1 by omega]; exact zI_add _ _) (by decide) rfl (fun ls hl => ?_)
        refine lv_goto (tgt := 25) hx hb dX7_init_47 (by decide) ?_
        refine W.widen (k := 0 + 1 + 0 + 1 + (i + 1)) (n := 0 + 7 + 0 + 3 + (i + 1) * 12) (by omega) (by omega) ?_
        have hai : ∀ j, j < i → a35 (3 + j) = a (3 + j) := fun j hj => by rw [ha35, upN_n (by omega)]
        exact ih (i + 1) a35 E43 H locs ls (by omega) (by omega) Fwea_E43 Fsite_E43 Gsite_a35 Gwea_a35 Gcra_a35 ⟨_, Fcra_E43, fun j hj => by
          unfold va_up
          by_cases e : j = i
          · rw [if_pos e, e, Gnw_a35]
          · rw [if_neg e, hai j (by omega)]; exact hfj j (by omega)⟩ (fun j hj => by
          by_cases e : j = i
          · rw [e]; exact Fnw_E43
          · exact Fel_E43 j (by omega)) hP hD hS (by have h9 := lv_sub hl [1, 0] rfl; exact h9)
  exact loop25 4 0 a17 E20 H locs ls (by omega) (by omega) Fwea_E20 Fsite_E20 Gsite_a17 Gwea_a17 Gcra_a17 ⟨_, Fcra_E20, fun j hj => absurd hj (Nat.not_lt_zero _)⟩ (fun j hj => absurd hj (Nat.not_lt_zero _)) hP hD hS (by have h9 := lv_sub hl [1, 0] rfl; exact h9)
