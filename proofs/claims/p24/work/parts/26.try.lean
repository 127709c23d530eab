set_option maxHeartbeats 4000000 in
set_option maxRecDepth 100000 in
/-- X7_tryLift -/
theorem c_X7_tryLift (l : Launch) (D : va_G) (cy : Nat → ClassId) (a q : Nat → Nat) (σ : Nat → Nat → Int) (sz : Nat) (i : Nat) (hi : i < 3) (load : Int) (hload : rg load) (fr : Int) (hfr : rg fr) (to : Int) (hto : rg to) (an : Int) (han : rg an) (hv9 : 1 ≤ load ∧ load ≤ 199 ∧ 10 ≤ fr ∧ fr ≤ σ (3 + i) 1 ∧ 10 ≤ to ∧ to ≤ σ (3 + i) 1 ∧ 0 ≤ an ∧ an ≤ 23) (hc9 : (i : Int) < σ 0 5) (t0 : Int) (wi : Int) (hO : okA t0 wi q σ) : Met l yX7_tryLift wsX7_tryLift ({ frames := 12, cells := 1, slots := 3, locals := 600 }) (va_Pc [.ref (a 0), .ref (a (3 + i)), .int (zI (load)), .int (zI (fr)), .int (zI (to)), .int (zI (an))] (fun U => U.heap.size = sz ∧ Wd D cy a q σ U)) (va_Qr (fun (_ : Unit) => True) (fun (_ : Unit) x t => va_P D vwCl (wld cy a q σ ++ [(x, .inr (6, fT (tryF σ i load fr to an)))]) t.heap ∧ va_D (fun y => wF a sz y) (wld cy a q σ ++ [(x, .inr (6, fT (tryF σ i load fr to an)))])) (fun _ => False)) 1 3 (wF a sz) := by
  refine Met.ofW (cc := cX7_tryLift) (maxL := 13) (ret := (some (.object "Slewfree$Trial"))) (by decide) rfl ?_
  intro p e s m args below meth c s₁ B hml hpc0
  obtain ⟨rfl, hsz, hW0⟩ := hpc0
  have hx := B.exec
  have hb := B.bytes
  have hr := B.returns
  have hts := atoms_spec (ws := wsX7_tryLift) B.pre
  have hown : s.vm.findClass RX7 = some m.cls := findClass_of_methodNamed B.named
  have hlocks := B.notSynchronized
  subst hsz
  obtain ⟨hP00, hE0⟩ := id hW0
  obtain ⟨hK, hinj, hU0, hN0, hstr, hnest⟩ := id hE0
  have hP : va_P D vwCl (wld cy a q σ ++ []) s.heap := by rw [List.append_nil]; exact hP00
  have hD : va_D (wF a s.heap.size) (wld cy a q σ ++ []) := wD_of hinj
  have hA : ∀ x : Nat, s.heap.size ≤ x → wF a s.heap.size x := fun _ h => Or.inr h
  have hS : va_S (wF a s.heap.size) s.heap s.heap [] := va_S.rf
  have hk0 : ∀ x : Nat, x < s.heap.size → s.heap[x]? = s.heap[x]? := fun _ _ => rfl
  have hl := lv_entry ([.ref (a 0), .ref (a (3 + i)), .int (zI (load)), .int (zI (fr)), .int (zI (to)), .int (zI (an))]) (n := 13) (Nat.le_of_ble_eq_true rfl)
  rw [lg_entry_eq]
  generalize (lg_sl ([.ref (a 0), .ref (a (3 + i)), .int (zI (load)), .int (zI (fr)), .int (zI (to)), .int (zI (an))]) ++ List.replicate (13 - (lg_sl ([.ref (a 0), .ref (a (3 + i)), .int (zI (load)), .int (zI (fr)), .int (zI (to)), .int (zI (an))])).length) Slot.unset).toArray = ls at hl ⊢
  have hl : lv_has ls 13 [(0, .ref (a 0)), (1, .ref (a (3 + i))), (2, .int (zI (load))), (3, .int (zI (fr))), (4, .int (zI (to))), (5, .int (zI (an)))] := hl
  have k10 := hts (.fieldLink RX7 10 "Slewfree" "weather" "LSlewfree$Weather;") (by decide +kernel)
  have k79 := hts (.fieldLink RX7 79 "Slewfree$Crane" "isLocked" "Z") (by decide +kernel)
  have k104 := hts (.fieldLink RX7 104 "Slewfree$Weather" "wind" "I") (by decide +kernel)
  have k207 := hts (.fieldLink RX7 207 "Slewfree$Crane" "angle" "I") (by decide +kernel)
  have inX0 : ∀ w ∈ u_ws RX0 TX0 12, w ∈ wsX7_tryLift := by decide +kernel
  have inX4 : ∀ w ∈ u_ws RX4 TX4 3, w ∈ wsX7_tryLift := by decide +kernel
  have inX5 : ∀ w ∈ u_ws RX5 TX5 7, w ∈ wsX7_tryLift := by decide +kernel
  have inX7 : ∀ w ∈ u_ws RX7 TX7 9, w ∈ wsX7_tryLift := by decide +kernel
  obtain ⟨oS, oW, oC, oZ, oM, oL, oP, oQ, oH⟩ := id hO
  unfold okS at oS; unfold okW at oW; unfold okL at oL
  have oC_i := oC i (by omega); unfold okC at oC_i
  have ab9 := abI_b (x := to - fr) (by omega)
  have sb9 := stF_b (σ (3 + i) 3) an
  have cb0 := cpF_b oC_i.2.2.2.2.1 fr (σ 1 5) (by omega) (by omega)
  refine lv_aload_n hx hb dX7_tryLift_0 rfl (lv_at hl 1 rfl) ?_
  refine va_get (D := D) (ci := 2) (v := .int (zI (σ (3 + i) 5))) (C := RX0) (T := TX0) (N := 12) hx hb hts inX0 hown hK hP (3 + i) (wg_C (i := i) (by first | assumption | omega)) rfl 5 (by decide) k79 (fun _ h9 => h9) rfl dX7_tryLift_1 ?_
  refine z_if_ne (tgt := 18) hx hb dX7_tryLift_4 (by decide) (by omega) (fun cd4 => ?_) (fun cd4 => ?_)
  · skip
    refine lv_aload_n hx hb dX7_tryLift_18 rfl (lv_at hl 1 rfl) ?_
    refine va_calli (va_runV (As := []) (rest := []) ⟨hx, hb, hml, hown, hts⟩ (c_X0_isWorn l D cy a q σ s.heap.size i (by first | assumption | omega) (by omega)) (cwV 0 hts gX7_tryLift_X0_isWorn rfl rfl rfl (by decide +kernel) ⟨Nat.le_of_ble_eq_true rfl, Nat.le_of_ble_eq_true rfl⟩) ⟨Wd_blind, va_recv hK hP (ci := 2) (q0 := (3 + i)) rfl (wg_C (i := i) (by first | assumption | omega)), fun U hU hW => ⟨rfl, by rw [hU], Wd_mk (wP_left hP) hE0 hS hU hW⟩⟩ rfl rfl hl.1 rfl (lv_room (Nat.le_of_ble_eq_true rfl)) dX7_tryLift_19 ⟨(show 0 + 0 ≤ 1 by omega), (show 0 + 0 ≤ 3 by omega)⟩) hS (fun _ _ h => h.elim) (fun _ h => wF_mono hS.1 _ h) (fun rv19 u9 t9 H locs ht hvm hw hB hz hk hS1 => ?_)
    have hP := hP.kept (fun k x hk9 => hk x.1 ((hP k x hk9).lt) (fun h => h))
    have hk0 : ∀ x : Nat, x < s.heap.size → H[x]? = s.heap[x]? := fun x h9 => (hk x (Nat.lt_of_lt_of_le h9 hS.1) (fun h => h)).trans (hk0 x h9)
    have hS := hS1
    rcases hw with ⟨rfl, bd19⟩ | ⟨rfl, bd19⟩
    · skip
      refine z_if_eq (tgt := 36) hx hb dX7_tryLift_22 (by decide) (by decide) (fun cd22 => absurd cd22 (by decide)) (fun _ => ?_)
      refine w_new (ci := 6) (fs := fT (0, 0, 0)) (C := RX4) (T := TX4) (N := 3) hx hb hts inX4 tyX4 tyX4_ok hown (hts (.classLink RX7 203 RX4) (by decide +kernel)) (hts (.instantiable RX4 3) (by decide +kernel)) (hts (.initialized RX4) (by decide +kernel)) hK hP hD hS hA rfl (fun j hj => by rcases (show j = 0 ∨ j = 1 ∨ j = 2 by omega) with rfl | rfl | rfl <;> rfl) (show 0 + 0 + 1 ≤ 1 by omega) (show 0 + 0 + 3 ≤ 3 by omega) dX7_tryLift_25 (fun xq H hxq hsz1 ho1 hP hD hS1 => ?_)
      have hk0 : ∀ x : Nat, x < s.heap.size → H[x]? = s.heap[x]? := fun x h9 => (ho1 x (Nat.lt_of_lt_of_le h9 hS.1)).trans (hk0 x h9)
      have hxs : s.heap.size ≤ xq := by rw [hxq]; exact hS.1
      have hS := hS1
      rw [List.append_nil] at hP hD
      refine lv_dup hx hb dX7_tryLift_28 rfl ?_
      refine lv_iconst (v := zI 2) hx hb dX7_tryLift_29 rfl ?_
      refine lv_iconst (v := zI (-1)) hx hb dX7_tryLift_30 rfl ?_
      refine lv_iconst (v := zI (-1)) hx hb dX7_tryLift_31 rfl ?_
      refine va_callv (va_runI (As := [.int (zI (2)), .int (zI (-1)), .int (zI (-1))]) (rest := [.ref (xq)]) ⟨hx, hb, hml, hown, hts⟩ (c_X4_init l D xq H.size (2) (-1) (-1)) (cwI 3 hts gX7_tryLift_X4_init rfl rfl rfl (hts (.initialized RX4) (by decide +kernel)) (hts (.methodLink RX7 369 yX4_init) (by decide +kernel)) (hts (.instanceMethod yX4_init) (by decide +kernel)) rfl (by decide +kernel) ⟨Nat.le_of_ble_eq_true rfl, Nat.le_of_ble_eq_true rfl⟩) ⟨fun v U g mk h => ⟨h.1, h.2.1, h.2.2.1, va_K.moved (u := U) (U := U.calling g mk v) (Vm.Alike.refl U.vm) h.2.2.2.1, h.2.2.2.2⟩, fun U hU hW => ⟨rfl, by rw [hU], by rw [hU]; exact wP_right hP, va_K.moved hW.alike (hK.sub [] rfl), wD_one⟩⟩ rfl rfl hl.1 rfl (lv_room (Nat.le_of_ble_eq_true rfl)) dX7_tryLift_32 ⟨(show 0 + 0 + 1 + 0 ≤ 1 by omega), (show 0 + 0 + 3 + 0 ≤ 3 by omega)⟩) hS (fun y _ h => (wA_one h).elim (fun e => Or.inr (by rw [e]; exact hxs)) (fun e => Or.inr (Nat.le_trans hS.1 e))) (fun y h => (wA_one h).elim (fun e => Or.inr (by rw [e]; exact hxs)) (fun e => Or.inr (Nat.le_trans hS.1 e))) (fun u9 t9 H locs ht hvm hw hB hz hk hS1 => ?_)
      have hB : va_P D vwCl [(xq, .inr (6, fT (2, -1, -1)))] t9.heap := hB
      rw [ht] at hB
      have hk0 : ∀ x : Nat, x < s.heap.size → H[x]? = s.heap[x]? := fun x h9 => (hk x (Nat.lt_of_lt_of_le h9 hS.1) (fun h => by have := wA_one h; have := hS.1; omega)).trans (hk0 x h9)
      have hP := wX_join hP hD hk hB
      have hD := wD_same (e' := .inr (6, fT (2, -1, -1))) hD
      have hS := hS1
      refine W.widen (k := 1) (n := 3) (by omega) (by omega) ?_
      have hT : (2, -1, -1) = tryF σ i load fr to an := (by unfold tryF; rw [if_neg cd4, if_pos bd19])
      rw [hT] at hP hD
      exact W.aret (v := .ref xq) hx hb hr (Or.inl ⟨_, rfl⟩) (Or.inr ⟨_, rfl⟩) (fun t9 ht hW => ⟨⟨(), _, rfl, trivial, by show va_P D vwCl _ t9.heap ∧ _; rw [ht]; exact ⟨hP, hD⟩⟩, vF_R ht hS.1 hk0⟩) hS.2.2 dX7_tryLift_35
    · skip
      refine z_if_eq (tgt := 36) hx hb dX7_tryLift_22 (by decide) (by decide) (fun _ => ?_) (fun cd22 => absurd cd22 (by decide))
      refine lv_iload_n hx hb dX7_tryLift_36 rfl (lv_at hl 3 rfl) ?_
      refine lv_istore (lv' := [(6, .int (zI (fr))), (0, .ref (a 0)), (1, .ref (a (3 + i))), (2, .int (zI (load))), (3, .int (zI (fr))), (4, .int (zI (to))), (5, .int (zI (an)))]) hx hb dX7_tryLift_37 hl (by decide) rfl (fun ls hl => ?_)
      refine lv_aload_n hx hb dX7_tryLift_39 rfl (lv_at hl 2 rfl) ?_
      refine va_get (D := D) (ci := 2) (v := .int (zI (σ (3 + i) 3))) (C := RX0) (T := TX0) (N := 12) hx hb hts inX0 hown hK hP (3 + i) (wg_C (i := i) (by first | assumption | omega)) rfl 3 (by decide) k207 (fun _ h9 => h9) rfl dX7_tryLift_40 ?_
      refine lv_istore (lv' := [(7, .int (zI (σ (3 + i) 3))), (6, .int (zI (fr))), (0, .ref (a 0)), (1, .ref (a (3 + i))), (2, .int (zI (load))), (3, .int (zI (fr))), (4, .int (zI (to))), (5, .int (zI (an)))]) hx hb dX7_tryLift_43 hl (by decide) rfl (fun ls hl => ?_)
      refine lv_aload_n hx hb dX7_tryLift_45 rfl (lv_at hl 3 rfl) ?_
      refine lv_iload_n hx hb dX7_tryLift_46 rfl (lv_at hl 5 rfl) ?_
      refine lv_aload_n hx hb dX7_tryLift_47 rfl (lv_at hl 2 rfl) ?_
      refine va_get (D := D) (ci := 9) (v := .ref (a 1)) (C := RX7) (T := TX7) (N := 9) hx hb hts inX7 hown hK hP 0 wg_S rfl 0 (by decide) k10 (fun _ h9 => h9) rfl dX7_tryLift_48 ?_
      refine va_get (D := D) (ci := 7) (v := .int (zI (σ 1 5))) (C := RX5) (T := TX5) (N := 7) hx hb hts inX5 hown hK hP 1 wg_W rfl 5 (by decide) k104 (fun _ h9 => h9) rfl dX7_tryLift_51 ?_
      refine va_calli (va_runV (As := [.int (zI (fr)), .int (zI (σ 1 5))]) (rest := []) ⟨hx, hb, hml, hown, hts⟩ (c_X0_capacityAt l D cy a q σ H.size i (by first | assumption | omega) (fr) (by omega) (σ 1 5) (by omega) (by first | assumption | omega) (by first | assumption | omega) (by omega) (by omega)) (cwV 2 hts gX7_tryLift_X0_capacityAt rfl rfl rfl (by decide +kernel) ⟨Nat.le_of_ble_eq_true rfl, Nat.le_of_ble_eq_true rfl⟩) ⟨Wd_blind, va_recv hK hP (ci := 2) (q0 := (3 + i)) rfl (wg_C (i := i) (by first | assumption | omega)), fun U hU hW => ⟨rfl, by rw [hU], Wd_mk (wP_left hP) hE0 hS hU hW⟩⟩ rfl rfl hl.1 rfl (lv_room (Nat.le_of_ble_eq_true rfl)) dX7_tryLift_54 ⟨(show 0 + 0 + 0 ≤ 1 by omega), (show 0 + 0 + 0 ≤ 3 by omega)⟩) hS (fun _ _ h => h.elim) (fun _ h => wF_mono hS.1 _ h) (fun rv54 u9 t9 H locs ht hvm hw hB hz hk hS1 => ?_)
      have hP := hP.kept (fun k x hk9 => hk x.1 ((hP k x hk9).lt) (fun h => h))
      have hk0 : ∀ x : Nat, x < s.heap.size → H[x]? = s.heap[x]? := fun x h9 => (hk x (Nat.lt_of_lt_of_le h9 hS.1) (fun h => h)).trans (hk0 x h9)
      have hS := hS1
      obtain rfl := hw
      refine lv_istore (lv' := [(8, .int (zI (cpF (σ (3 + i)) fr (σ 1 5)))), (7, .int (zI (σ (3 + i) 3))), (6, .int (zI (fr))), (0, .ref (a 0)), (1, .ref (a (3 + i))), (2, .int (zI (load))), (3, .int (zI (fr))), (4, .int (zI (to))), (5, .int (zI (an)))]) hx hb dX7_tryLift_57 hl (by decide) rfl (fun ls hl => ?_)
      refine lv_iload hx hb dX7_tryLift_59 (lv_at hl 7 rfl) ?_
      refine lv_iload_n hx hb dX7_tryLift_61 rfl (lv_at hl 6 rfl) ?_
      refine z_isub hx hb dX7_tryLift_62 ?_
      refine va_mabs hx hb (by rw [hml]; exact hl.1.symm) hown (hts (.methodLink RX7 372 Lib.Math.abs.name) (by decide +kernel)) (hts (.static Lib.Math.abs.name) (by decide +kernel)) (hts (.initialized "java/lang/Math") (by decide +kernel)) (hts (.code Lib.Math.abs.name Lib.Math.abs.code 1 (some .int)) (by decide +kernel)) (Nat.le_of_ble_eq_true rfl) (Nat.le_of_ble_eq_true rfl) (show 0 + 0 + 0 ≤ 1 by omega) (show 0 + 0 + 0 ≤ 3 by omega) dX7_tryLift_63 ?_
      rw [zabs (x := to - fr) (by omega)]
      refine lv_iload hx hb dX7_tryLift_66 (lv_at hl 1 rfl) ?_
      refine lv_iload hx hb dX7_tryLift_68 (lv_at hl 8 rfl) ?_
      refine va_calli (va_runS (As := [.int (zI (σ (3 + i) 3)), .int (zI (an))]) (rest := [.int (zI (abI (to - fr)))]) ⟨hx, hb, hml, hown, hts⟩ (c_X7_stepsBetween l (σ (3 + i) 3) (by omega) (an) (by omega) (by first | assumption | omega) (by first | assumption | omega)) (va_cwS 2 hts gX7_tryLift_X7_stepsBetween rfl rfl rfl (by decide +kernel) ⟨Nat.le_of_ble_eq_true rfl, Nat.le_of_ble_eq_true rfl⟩) ⟨fun _ _ _ _ h => h, fun _ _ _ => ⟨rfl, trivial⟩⟩ rfl rfl hl.1 rfl (lv_room (Nat.le_of_ble_eq_true rfl)) dX7_tryLift_70 ⟨(show 0 + 0 + 0 + 0 ≤ 1 by omega), (show 0 + 0 + 0 + 0 ≤ 3 by omega)⟩) hS (fun _ _ h => h.elim) (fun _ h => h.elim) (fun rv70 u9 t9 H locs ht hvm hw hB hz hk hS1 => ?_)
      have hP := hP.kept (fun k x hk9 => hk x.1 ((hP k x hk9).lt) (fun h => h))
      have hk0 : ∀ x : Nat, x < s.heap.size → H[x]? = s.heap[x]? := fun x h9 => (hk x (Nat.lt_of_lt_of_le h9 hS.1) (fun h => h)).trans (hk0 x h9)
      have hS := hS1
      obtain rfl := hw
      refine z_iadd hx hb dX7_tryLift_73 ?_
      refine lv_istore (lv' := [(9, .int (zI ((abI (to - fr)) + (stF (σ (3 + i) 3) an)))), (8, .int (zI (cpF (σ (3 + i)) fr (σ 1 5)))), (7, .int (zI (σ (3 + i) 3))), (6, .int (zI (fr))), (0, .ref (a 0)), (1, .ref (a (3 + i))), (2, .int (zI (load))), (3, .int (zI (fr))), (4, .int (zI (to))), (5, .int (zI (an)))]) hx hb dX7_tryLift_74 hl (by decide) rfl (fun ls hl => ?_)
      refine lv_iconst (v := zI 0) hx hb dX7_tryLift_76 rfl ?_
      refine lv_istore (lv' := [(10, .int (zI (0))), (9, .int (zI ((abI (to - fr)) + (stF (σ (3 + i) 3) an)))), (8, .int (zI (cpF (σ (3 + i)) fr (σ 1 5)))), (7, .int (zI (σ (3 + i) 3))), (6, .int (zI (fr))), (0, .ref (a 0)), (1, .ref (a (3 + i))), (2, .int (zI (load))), (3, .int (zI (fr))), (4, .int (zI (to))), (5, .int (zI (an)))]) hx hb dX7_tryLift_77 hl (by decide) rfl (fun ls hl => ?_)
      have loop79 : ∀ (n : Nat) (g : Nat) (st9 : Int) (ra : Int) (hd : Int) (le : Int) (H : Heap) (locs : List Loc) (ls : Array Slot), g < n → ((g : Int) = abI (to - fr) + stF (σ (3 + i) 3) an + 1 - st9) → (0 ≤ st9) → (10 ≤ ra ∧ ra ≤ σ (3 + i) 1) → (0 ≤ hd ∧ hd ≤ 23) → (0 ≤ le ∧ le ≤ 1000) → (tryR σ i load to an g st9 ra hd le = tryF σ i load fr to an) → va_P D vwCl (wld cy a q σ ++ []) H → va_S (wF a s.heap.size) s.heap H locs → (∀ x : Nat, x < s.heap.size → H[x]? = s.heap[x]?) → lv_has ls 13 [(0, .ref (a 0)), (1, .ref (a (3 + i))), (2, .int (zI (load))), (3, .int (zI (fr))), (4, .int (zI (to))), (5, .int (zI (an))), (6, .int (zI (ra))), (7, .int (zI (hd))), (8, .int (zI (le))), (9, .int (zI (abI (to - fr) + stF (σ (3 + i) 3) an))), (10, .int (zI (st9)))] → W p l e (headSpec wsX7_tryLift ({ frames := 12, cells := 1, slots := 3, locals := 600 })).room s m ([.ref (a 0), .ref (a (3 + i)), .int (zI (load)), .int (zI (fr)), .int (zI (to)), .int (zI (an))] : List Value).toArray below meth c H locs (0 + 0 + 0 + 0) (0 + 0 + 0 + 0) (MQ below (va_Qr (fun (_ : Unit) => True) (fun (_ : Unit) x t => va_P D vwCl (wld cy a q σ ++ [(x, .inr (6, fT (tryF σ i load fr to an)))]) t.heap ∧ va_D (fun y => wF a s.heap.size y) (wld cy a q σ ++ [(x, .inr (6, fT (tryF σ i load fr to an)))])) (fun _ => False)) ([.ref (a 0), .ref (a (3 + i)), .int (zI (load)), .int (zI (fr)), .int (zI (to)), .int (zI (an))] : List Value).toArray s 1 3 (wF a s.heap.size)) (F0 m 79 ls []) := by
        intro n
        induction n with
        | zero => intro g st9 ra hd le H locs ls h0; exact absurd h0 (Nat.not_lt_zero _)
        | succ n ih79 =>
          intro g st9 ra hd le H locs ls hms hg hst hra hhd hle heq hP hS hk0 hl
          refine lv_iload hx hb dX7_tryLift_79 (lv_at hl 10 rfl) ?_
          refine lv_iload hx hb dX7_tryLift_81 (lv_at hl 9 rfl) ?_
          refine z_icmp_gt (tgt := 182) hx hb dX7_tryLift_83 (by decide) (by omega) (by omega) (fun cd83 => ?_) (fun cd83 => ?_)
          · skip
            refine w_new (ci := 6) (fs := fT (0, 0, 0)) (C := RX4) (T := TX4) (N := 3) hx hb hts inX4 tyX4 tyX4_ok hown (hts (.classLink RX7 203 RX4) (by decide +kernel)) (hts (.instantiable RX4 3) (by decide +kernel)) (hts (.initialized RX4) (by decide +kernel)) hK hP hD hS hA rfl (fun j hj => by rcases (show j = 0 ∨ j = 1 ∨ j = 2 by omega) with rfl | rfl | rfl <;> rfl) (show 0 + 0 + 0 + 0 + 1 ≤ 1 by omega) (show 0 + 0 + 0 + 0 + 3 ≤ 3 by omega) dX7_tryLift_182 (fun xq H hxq hsz1 ho1 hP hD hS1 => ?_)
            have hk0 : ∀ x : Nat, x < s.heap.size → H[x]? = s.heap[x]? := fun x h9 => (ho1 x (Nat.lt_of_lt_of_le h9 hS.1)).trans (hk0 x h9)
            have hxs : s.heap.size ≤ xq := by rw [hxq]; exact hS.1
            have hS := hS1
            rw [List.append_nil] at hP hD
            refine lv_dup hx hb dX7_tryLift_185 rfl ?_
            refine lv_iconst (v := zI 0) hx hb dX7_tryLift_186 rfl ?_
            refine lv_iconst (v := zI (-1)) hx hb dX7_tryLift_187 rfl ?_
            refine lv_iload hx hb dX7_tryLift_188 (lv_at hl 8 rfl) ?_
            refine va_callv (va_runI (As := [.int (zI (0)), .int (zI (-1)), .int (zI (le))]) (rest := [.ref (xq)]) ⟨hx, hb, hml, hown, hts⟩ (c_X4_init l D xq H.size (0) (-1) (le)) (cwI 3 hts gX7_tryLift_X4_init rfl rfl rfl (hts (.initialized RX4) (by decide +kernel)) (hts (.methodLink RX7 369 yX4_init) (by decide +kernel)) (hts (.instanceMethod yX4_init) (by decide +kernel)) rfl (by decide +kernel) ⟨Nat.le_of_ble_eq_true rfl, Nat.le_of_ble_eq_true rfl⟩) ⟨fun v U g mk h => ⟨h.1, h.2.1, h.2.2.1, va_K.moved (u := U) (U := U.calling g mk v) (Vm.Alike.refl U.vm) h.2.2.2.1, h.2.2.2.2⟩, fun U hU hW => ⟨rfl, by rw [hU], by rw [hU]; exact wP_right hP, va_K.moved hW.alike (hK.sub [] rfl), wD_one⟩⟩ rfl rfl hl.1 rfl (lv_room (Nat.le_of_ble_eq_true rfl)) dX7_tryLift_190 ⟨(show 0 + 0 + 0 + 0 + 1 + 0 ≤ 1 by omega), (show 0 + 0 + 0 + 0 + 3 + 0 ≤ 3 by omega)⟩) hS (fun y _ h => (wA_one h).elim (fun e => Or.inr (by rw [e]; exact hxs)) (fun e => Or.inr (Nat.le_trans hS.1 e))) (fun y h => (wA_one h).elim (fun e => Or.inr (by rw [e]; exact hxs)) (fun e => Or.inr (Nat.le_trans hS.1 e))) (fun u9 t9 H locs ht hvm hw hB hz hk hS1 => ?_)
            have hB : va_P D vwCl [(xq, .inr (6, fT (0, -1, le)))] t9.heap := hB
            rw [ht] at hB
            have hk0 : ∀ x : Nat, x < s.heap.size → H[x]? = s.heap[x]? := fun x h9 => (hk x (Nat.lt_of_lt_of_le h9 hS.1) (fun h => by have := wA_one h; have := hS.1; omega)).trans (hk0 x h9)
            have hP := wX_join hP hD hk hB
            have hD := wD_same (e' := .inr (6, fT (0, -1, le))) hD
            have hS := hS1
            refine W.widen (k := 1) (n := 3) (by omega) (by omega) ?_
            have hT : (0, -1, le) = tryF σ i load fr to an := (by rw [← heq, show g = 0 by omega]; rfl)
            rw [hT] at hP hD
            exact W.aret (v := .ref xq) hx hb hr (Or.inl ⟨_, rfl⟩) (Or.inr ⟨_, rfl⟩) (fun t9 ht hW => ⟨⟨(), _, rfl, trivial, by show va_P D vwCl _ t9.heap ∧ _; rw [ht]; exact ⟨hP, hD⟩⟩, vF_R ht hS.1 hk0⟩) hS.2.2 dX7_tryLift_193
          · skip
            obtain ⟨gk, rfl⟩ : ∃ k, g = k + 1 := ⟨g - 1, by omega⟩
            have cb9 := cpF_b oC_i.2.2.2.2.1 ra (σ 1 5) (by omega) (by omega)
            refine lv_aload_n hx hb dX7_tryLift_86 rfl (lv_at hl 1 rfl) ?_
            refine lv_iload hx hb dX7_tryLift_87 (lv_at hl 6 rfl) ?_
            refine lv_aload_n hx hb dX7_tryLift_89 rfl (lv_at hl 0 rfl) ?_
            refine va_get (D := D) (ci := 9) (v := .ref (a 1)) (C := RX7) (T := TX7) (N := 9) hx hb hts inX7 hown hK hP 0 wg_S rfl 0 (by decide) k10 (fun _ h9 => h9) rfl dX7_tryLift_90 ?_
            refine va_get (D := D) (ci := 7) (v := .int (zI (σ 1 5))) (C := RX5) (T := TX5) (N := 7) hx hb hts inX5 hown hK hP 1 wg_W rfl 5 (by decide) k104 (fun _ h9 => h9) rfl dX7_tryLift_93 ?_
            refine va_calli (va_runV (As := [.int (zI (ra)), .int (zI (σ 1 5))]) (rest := []) ⟨hx, hb, hml, hown, hts⟩ (c_X0_capacityAt l D cy a q σ H.size i (by first | assumption | omega) (ra) (by omega) (σ 1 5) (by omega) (by first | assumption | omega) (by first | assumption | omega) (by omega) (by omega)) (cwV 2 hts gX7_tryLift_X0_capacityAt rfl rfl rfl (by decide +kernel) ⟨Nat.le_of_ble_eq_true rfl, Nat.le_of_ble_eq_true rfl⟩) ⟨Wd_blind, va_recv hK hP (ci := 2) (q0 := (3 + i)) rfl (wg_C (i := i) (by first | assumption | omega)), fun U hU hW => ⟨rfl, by rw [hU], Wd_mk (wP_left hP) hE0 hS hU hW⟩⟩ rfl rfl hl.1 rfl (lv_room (Nat.le_of_ble_eq_true rfl)) dX7_tryLift_96 ⟨(show 0 + 0 + 0 + 0 + 0 ≤ 1 by omega), (show 0 + 0 + 0 + 0 + 0 ≤ 3 by omega)⟩) hS (fun _ _ h => h.elim) (fun _ h => wF_mono hS.1 _ h) (fun rv96 u9 t9 H locs ht hvm hw hB hz hk hS1 => ?_)
            have hP := hP.kept (fun k x hk9 => hk x.1 ((hP k x hk9).lt) (fun h => h))
            have hk0 : ∀ x : Nat, x < s.heap.size → H[x]? = s.heap[x]? := fun x h9 => (hk x (Nat.lt_of_lt_of_le h9 hS.1) (fun h => h)).trans (hk0 x h9)
            have hS := hS1
            obtain rfl := hw
            refine lv_istore (lv' := [(11, .int (zI (cpF (σ (3 + i)) ra (σ 1 5)))), (0, .ref (a 0)), (1, .ref (a (3 + i))), (2, .int (zI (load))), (3, .int (zI (fr))), (4, .int (zI (to))), (5, .int (zI (an))), (6, .int (zI (ra))), (7, .int (zI (hd))), (8, .int (zI (le))), (9, .int (zI (abI (to - fr) + stF (σ (3 + i) 3) an))), (10, .int (zI (st9)))]) hx hb dX7_tryLift_99 hl (by decide) rfl (fun ls hl => ?_)
            refine lv_aload_n hx hb dX7_tryLift_101 rfl (lv_at hl 1 rfl) ?_
            refine lv_aload_n hx hb dX7_tryLift_102 rfl (lv_at hl 2 rfl) ?_
            refine lv_iload_n hx hb dX7_tryLift_103 rfl (lv_at hl 3 rfl) ?_
            refine lv_iload hx hb dX7_tryLift_104 (lv_at hl 0 rfl) ?_
            refine lv_iload hx hb dX7_tryLift_106 (lv_at hl 8 rfl) ?_
            refine va_calli (va_runV (As := [.ref (a (3 + i)), .int (zI (load)), .int (zI (cpF (σ (3 + i)) ra (σ 1 5))), .int (zI (hd))]) (rest := []) ⟨hx, hb, hml, hown, hts⟩ (c_X7_verdictAt l D cy a q σ H.size i (by first | assumption | omega) (load) (by omega) (cpF (σ (3 + i)) ra (σ 1 5)) (by omega) (hd) (by omega) (by first | assumption | omega) _ _ hO) (cwV 4 hts gX7_tryLift_X7_verdictAt rfl rfl rfl (by decide +kernel) ⟨Nat.le_of_ble_eq_true rfl, Nat.le_of_ble_eq_true rfl⟩) ⟨Wd_blind, va_recv hK hP (ci := 9) (q0 := 0) rfl wg_S, fun U hU hW => ⟨rfl, by rw [hU], Wd_mk (wP_left hP) hE0 hS hU hW⟩⟩ rfl rfl hl.1 rfl (lv_room (Nat.le_of_ble_eq_true rfl)) dX7_tryLift_108 ⟨(show 0 + 0 + 0 + 0 + 0 + 0 ≤ 1 by omega), (show 0 + 0 + 0 + 0 + 0 + 0 ≤ 3 by omega)⟩) hS (fun _ _ h => h.elim) (fun _ h => wF_mono hS.1 _ h) (fun rv108 u9 t9 H locs ht hvm hw hB hz hk hS1 => ?_)
            have hP := hP.kept (fun k x hk9 => hk x.1 ((hP k x hk9).lt) (fun h => h))
            have hk0 : ∀ x : Nat, x < s.heap.size → H[x]? = s.heap[x]? := fun x h9 => (hk x (Nat.lt_of_lt_of_le h9 hS.1) (fun h => h)).trans (hk0 x h9)
            have hS := hS1
            obtain rfl := hw
            have vb9 := vdF_b σ load (cpF (σ (3 + i)) ra (σ 1 5)) (σ (3 + i) 0) hd
            refine lv_istore (lv' := [(12, .int (zI (vdF σ load (cpF (σ (3 + i)) ra (σ 1 5)) (σ (3 + i) 0) hd))), (11, .int (zI (cpF (σ (3 + i)) ra (σ 1 5)))), (0, .ref (a 0)), (1, .ref (a (3 + i))), (2, .int (zI (load))), (3, .int (zI (fr))), (4, .int (zI (to))), (5, .int (zI (an))), (6, .int (zI (ra))), (7, .int (zI (hd))), (8, .int (zI (le))), (9, .int (zI (abI (to - fr) + stF (σ (3 + i) 3) an))), (10, .int (zI (st9)))]) hx hb dX7_tryLift_111 hl (by decide) rfl (fun ls hl => ?_)
            refine lv_iload hx hb dX7_tryLift_113 (lv_at hl 0 rfl) ?_
            refine z_if_eq (tgt := 131) hx hb dX7_tryLift_115 (by decide) (by omega) (fun cd115 => ?_) (fun cd115 => ?_)
            · skip
              refine lv_iload hx hb dX7_tryLift_131 (lv_at hl 10 rfl) ?_
              refine lv_iload hx hb dX7_tryLift_133 (lv_at hl 1 rfl) ?_
              refine va_mmin hx hb (by rw [hml]; exact hl.1.symm) hown (hts (.methodLink RX7 363 Lib.Math.min.name) (by decide +kernel)) (hts (.static Lib.Math.min.name) (by decide +kernel)) (hts (.initialized "java/lang/Math") (by decide +kernel)) (hts (.code Lib.Math.min.name Lib.Math.min.code 2 (some .int)) (by decide +kernel)) (Nat.le_of_ble_eq_true rfl) (Nat.le_of_ble_eq_true rfl) (show 0 + 0 + 0 + 0 + 0 + 0 ≤ 1 by omega) (show 0 + 0 + 0 + 0 + 0 + 0 ≤ 3 by omega) dX7_tryLift_135 ?_
              rw [zmin (x := le) (y := cpF (σ (3 + i)) ra (σ 1 5)) (by omega) (by omega)]
              have mb9 := mnI_b (x := le) (y := cpF (σ (3 + i)) ra (σ 1 5)) (by omega) (by omega)
              refine lv_istore (lv' := [(8, .int (zI (mnI le (cpF (σ (3 + i)) ra (σ 1 5))))), (12, .int (zI (vdF σ load (cpF (σ (3 + i)) ra (σ 1 5)) (σ (3 + i) 0) hd))), (11, .int (zI (cpF (σ (3 + i)) ra (σ 1 5)))), (0, .ref (a 0)), (1, .ref (a (3 + i))), (2, .int (zI (load))), (3, .int (zI (fr))), (4, .int (zI (to))), (5, .int (zI (an))), (6, .int (zI (ra))), (7, .int (zI (hd))), (9, .int (zI (abI (to - fr) + stF (σ (3 + i) 3) an))), (10, .int (zI (st9)))]) hx hb dX7_tryLift_138 hl (by decide) rfl (fun ls hl => ?_)
              refine lv_iload hx hb dX7_tryLift_140 (lv_at hl 9 rfl) ?_
              refine lv_iload hx hb dX7_tryLift_142 (lv_at hl 7 rfl) ?_
              refine z_icmp_eq (tgt := 167) hx hb dX7_tryLift_144 (by decide) (by omega) (by omega) (fun cd144 => ?_) (fun cd144 => ?_)
              · skip
                have an9 := anF_b (f := hd) (t := an) (by omega)
                refine lv_iload hx hb dX7_tryLift_167 (lv_at hl 10 rfl) ?_
                refine lv_iload hx hb dX7_tryLift_169 (lv_at hl 8 rfl) ?_
                refine va_calli (va_runS (As := [.int (zI (hd)), .int (zI (an))]) (rest := []) ⟨hx, hb, hml, hown, hts⟩ (c_X7_angleTowards l (hd) (by omega) (an) (by omega) (by first | assumption | omega) (by first | assumption | omega)) (va_cwS 2 hts gX7_tryLift_X7_angleTowards rfl rfl rfl (by decide +kernel) ⟨Nat.le_of_ble_eq_true rfl, Nat.le_of_ble_eq_true rfl⟩) ⟨fun _ _ _ _ h => h, fun _ _ _ => ⟨rfl, trivial⟩⟩ rfl rfl hl.1 rfl (lv_room (Nat.le_of_ble_eq_true rfl)) dX7_tryLift_171 ⟨(show 0 + 0 + 0 + 0 + 0 + 0 + 0 ≤ 1 by omega), (show 0 + 0 + 0 + 0 + 0 + 0 + 0 ≤ 3 by omega)⟩) hS (fun _ _ h => h.elim) (fun _ h => h.elim) (fun rv171 u9 t9 H locs ht hvm hw hB hz hk hS1 => ?_)
                have hP := hP.kept (fun k x hk9 => hk x.1 ((hP k x hk9).lt) (fun h => h))
                have hk0 : ∀ x : Nat, x < s.heap.size → H[x]? = s.heap[x]? := fun x h9 => (hk x (Nat.lt_of_lt_of_le h9 hS.1) (fun h => h)).trans (hk0 x h9)
                have hS := hS1
                obtain rfl := hw
                refine lv_istore (lv' := [(7, .int (zI (anF hd an))), (8, .int (zI (mnI le (cpF (σ (3 + i)) ra (σ 1 5))))), (12, .int (zI (vdF σ load (cpF (σ (3 + i)) ra (σ 1 5)) (σ (3 + i) 0) hd))), (11, .int (zI (cpF (σ (3 + i)) ra (σ 1 5)))), (0, .ref (a 0)), (1, .ref (a (3 + i))), (2, .int (zI (load))), (3, .int (zI (fr))), (4, .int (zI (to))), (5, .int (zI (an))), (6, .int (zI (ra))), (9, .int (zI (abI (to - fr) + stF (σ (3 + i) 3) an))), (10, .int (zI (st9)))]) hx hb dX7_tryLift_174 hl (by decide) rfl (fun ls hl => ?_)
                refine lv_iinc (v := zI (st9 + 1)) (lv' := [(10, .int (zI (st9 + 1))), (7, .int (zI (anF hd an))), (8, .int (zI (mnI le (cpF (σ (3 + i)) ra (σ 1 5))))), (12, .int (zI (vdF σ load (cpF (σ (3 + i)) ra (σ 1 5)) (σ (3 + i) 0) hd))), (11, .int (zI (cpF (σ (3 + i)) ra (σ 1 5)))), (0, .ref (a 0)), (1, .ref (a (3 + i))), (2, .int (zI (load))), (3, .int (zI (fr))), (4, .int (zI (to))), (5, .int (zI (an))), (6, .int (zI (ra))), (9, .int (zI (abI (to - fr) + stF (σ (3 + i) 3) an)))]) hx hb dX7_tryLift_176 hl (k := 12) rfl (zI_add _ _) (by decide) rfl (fun ls hl => ?_)
                refine lv_goto (tgt := 79) hx hb dX7_tryLift_179 (by decide) ?_
                exact ih79 gk (st9 + 1) (ra) (anF hd an) (mnI le (cpF (σ (3 + i)) ra (σ 1 5))) H locs ls (by omega) (by omega) (by omega) (by omega) (by omega) (by omega) (by rw [← heq]; exact (tryR_turn cd115 cd144).symm)  hP hS hk0 (by have h9 := lv_sub hl [5, 6, 7, 8, 9, 10, 11, 1, 2, 12, 0] rfl; exact h9)
              · skip
                refine lv_iload hx hb dX7_tryLift_147 (lv_at hl 9 rfl) ?_
                refine lv_iload hx hb dX7_tryLift_149 (lv_at hl 9 rfl) ?_
                refine lv_iload hx hb dX7_tryLift_151 (lv_at hl 7 rfl) ?_
                refine z_icmp_ge (tgt := 160) hx hb dX7_tryLift_153 (by decide) (by omega) (by omega) (fun cd153 => ?_) (fun cd153 => ?_)
                · skip
                  refine lv_iconst (v := zI (-1)) hx hb dX7_tryLift_160 rfl ?_
                  refine z_iadd hx hb dX7_tryLift_161 ?_
                  refine lv_istore (lv' := [(6, .int (zI (ra + (-1)))), (8, .int (zI (mnI le (cpF (σ (3 + i)) ra (σ 1 5))))), (12, .int (zI (vdF σ load (cpF (σ (3 + i)) ra (σ 1 5)) (σ (3 + i) 0) hd))), (11, .int (zI (cpF (σ (3 + i)) ra (σ 1 5)))), (0, .ref (a 0)), (1, .ref (a (3 + i))), (2, .int (zI (load))), (3, .int (zI (fr))), (4, .int (zI (to))), (5, .int (zI (an))), (7, .int (zI (hd))), (9, .int (zI (abI (to - fr) + stF (σ (3 + i) 3) an))), (10, .int (zI (st9)))]) hx hb dX7_tryLift_162 hl (by decide) rfl (fun ls hl => ?_)
                  refine lv_goto (tgt := 176) hx hb dX7_tryLift_164 (by decide) ?_
                  refine lv_iinc (v := zI (st9 + 1)) (lv' := [(10, .int (zI (st9 + 1))), (6, .int (zI (ra + (-1)))), (8, .int (zI (mnI le (cpF (σ (3 + i)) ra (σ 1 5))))), (12, .int (zI (vdF σ load (cpF (σ (3 + i)) ra (σ 1 5)) (σ (3 + i) 0) hd))), (11, .int (zI (cpF (σ (3 + i)) ra (σ 1 5)))), (0, .ref (a 0)), (1, .ref (a (3 + i))), (2, .int (zI (load))), (3, .int (zI (fr))), (4, .int (zI (to))), (5, .int (zI (an))), (7, .int (zI (hd))), (9, .int (zI (abI (to - fr) + stF (σ (3 + i) 3) an)))]) hx hb dX7_tryLift_176 hl (k := 12) rfl (zI_add _ _) (by decide) rfl (fun ls hl => ?_)
                  refine lv_goto (tgt := 79) hx hb dX7_tryLift_179 (by decide) ?_
                  exact ih79 gk (st9 + 1) (ra + (-1)) hd (mnI le (cpF (σ (3 + i)) ra (σ 1 5))) H locs ls (by omega) (by omega) (by omega) (by omega) (by omega) (by omega) (by rw [← heq]; rw [tryR_go cd115 cd144, if_neg (by omega)])  hP hS hk0 (by have h9 := lv_sub hl [5, 6, 7, 8, 9, 10, 1, 11, 2, 12, 0] rfl; exact h9)
                · skip
                  refine lv_iconst (v := zI 1) hx hb dX7_tryLift_156 rfl ?_
                  refine lv_goto (tgt := 161) hx hb dX7_tryLift_157 (by decide) ?_
                  refine z_iadd hx hb dX7_tryLift_161 ?_
                  refine lv_istore (lv' := [(6, .int (zI (ra + 1))), (8, .int (zI (mnI le (cpF (σ (3 + i)) ra (σ 1 5))))), (12, .int (zI (vdF σ load (cpF (σ (3 + i)) ra (σ 1 5)) (σ (3 + i) 0) hd))), (11, .int (zI (cpF (σ (3 + i)) ra (σ 1 5)))), (0, .ref (a 0)), (1, .ref (a (3 + i))), (2, .int (zI (load))), (3, .int (zI (fr))), (4, .int (zI (to))), (5, .int (zI (an))), (7, .int (zI (hd))), (9, .int (zI (abI (to - fr) + stF (σ (3 + i) 3) an))), (10, .int (zI (st9)))]) hx hb dX7_tryLift_162 hl (by decide) rfl (fun ls hl => ?_)
                  refine lv_goto (tgt := 176) hx hb dX7_tryLift_164 (by decide) ?_
                  refine lv_iinc (v := zI (st9 + 1)) (lv' := [(10, .int (zI (st9 + 1))), (6, .int (zI (ra + 1))), (8, .int (zI (mnI le (cpF (σ (3 + i)) ra (σ 1 5))))), (12, .int (zI (vdF σ load (cpF (σ (3 + i)) ra (σ 1 5)) (σ (3 + i) 0) hd))), (11, .int (zI (cpF (σ (3 + i)) ra (σ 1 5)))), (0, .ref (a 0)), (1, .ref (a (3 + i))), (2, .int (zI (load))), (3, .int (zI (fr))), (4, .int (zI (to))), (5, .int (zI (an))), (7, .int (zI (hd))), (9, .int (zI (abI (to - fr) + stF (σ (3 + i) 3) an)))]) hx hb dX7_tryLift_176 hl (k := 12) rfl (zI_add _ _) (by decide) rfl (fun ls hl => ?_)
                  refine lv_goto (tgt := 79) hx hb dX7_tryLift_179 (by decide) ?_
                  exact ih79 gk (st9 + 1) (ra + 1) hd (mnI le (cpF (σ (3 + i)) ra (σ 1 5))) H locs ls (by omega) (by omega) (by omega) (by omega) (by omega) (by omega) (by rw [← heq]; rw [tryR_go cd115 cd144, if_pos (by omega)])  hP hS hk0 (by have h9 := lv_sub hl [5, 6, 7, 8, 9, 10, 1, 11, 2, 12, 0] rfl; exact h9)
            · skip
              refine w_new (ci := 6) (fs := fT (0, 0, 0)) (C := RX4) (T := TX4) (N := 3) hx hb hts inX4 tyX4 tyX4_ok hown (hts (.classLink RX7 203 RX4) (by decide +kernel)) (hts (.instantiable RX4 3) (by decide +kernel)) (hts (.initialized RX4) (by decide +kernel)) hK hP hD hS hA rfl (fun j hj => by rcases (show j = 0 ∨ j = 1 ∨ j = 2 by omega) with rfl | rfl | rfl <;> rfl) (show 0 + 0 + 0 + 0 + 0 + 0 + 1 ≤ 1 by omega) (show 0 + 0 + 0 + 0 + 0 + 0 + 3 ≤ 3 by omega) dX7_tryLift_118 (fun xq H hxq hsz1 ho1 hP hD hS1 => ?_)
              have hk0 : ∀ x : Nat, x < s.heap.size → H[x]? = s.heap[x]? := fun x h9 => (ho1 x (Nat.lt_of_lt_of_le h9 hS.1)).trans (hk0 x h9)
              have hxs : s.heap.size ≤ xq := by rw [hxq]; exact hS.1
              have hS := hS1
              rw [List.append_nil] at hP hD
              refine lv_dup hx hb dX7_tryLift_121 rfl ?_
              refine lv_iload hx hb dX7_tryLift_122 (lv_at hl 0 rfl) ?_
              refine lv_iload hx hb dX7_tryLift_124 (lv_at hl 12 rfl) ?_
              refine lv_iconst (v := zI (-1)) hx hb dX7_tryLift_126 rfl ?_
              refine va_callv (va_runI (As := [.int (zI (vdF σ load (cpF (σ (3 + i)) ra (σ 1 5)) (σ (3 + i) 0) hd)), .int (zI (st9)), .int (zI (-1))]) (rest := [.ref (xq)]) ⟨hx, hb, hml, hown, hts⟩ (c_X4_init l D xq H.size (vdF σ load (cpF (σ (3 + i)) ra (σ 1 5)) (σ (3 + i) 0) hd) (st9) (-1)) (cwI 3 hts gX7_tryLift_X4_init rfl rfl rfl (hts (.initialized RX4) (by decide +kernel)) (hts (.methodLink RX7 369 yX4_init) (by decide +kernel)) (hts (.instanceMethod yX4_init) (by decide +kernel)) rfl (by decide +kernel) ⟨Nat.le_of_ble_eq_true rfl, Nat.le_of_ble_eq_true rfl⟩) ⟨fun v U g mk h => ⟨h.1, h.2.1, h.2.2.1, va_K.moved (u := U) (U := U.calling g mk v) (Vm.Alike.refl U.vm) h.2.2.2.1, h.2.2.2.2⟩, fun U hU hW => ⟨rfl, by rw [hU], by rw [hU]; exact wP_right hP, va_K.moved hW.alike (hK.sub [] rfl), wD_one⟩⟩ rfl rfl hl.1 rfl (lv_room (Nat.le_of_ble_eq_true rfl)) dX7_tryLift_127 ⟨(show 0 + 0 + 0 + 0 + 0 + 0 + 1 + 0 ≤ 1 by omega), (show 0 + 0 + 0 + 0 + 0 + 0 + 3 + 0 ≤ 3 by omega)⟩) hS (fun y _ h => (wA_one h).elim (fun e => Or.inr (by rw [e]; exact hxs)) (fun e => Or.inr (Nat.le_trans hS.1 e))) (fun y h => (wA_one h).elim (fun e => Or.inr (by rw [e]; exact hxs)) (fun e => Or.inr (Nat.le_trans hS.1 e))) (fun u9 t9 H locs ht hvm hw hB hz hk hS1 => ?_)
              have hB : va_P D vwCl [(xq, .inr (6, fT (vdF σ load (cpF (σ (3 + i)) ra (σ 1 5)) (σ (3 + i) 0) hd, st9, -1)))] t9.heap := hB
              rw [ht] at hB
              have hk0 : ∀ x : Nat, x < s.heap.size → H[x]? = s.heap[x]? := fun x h9 => (hk x (Nat.lt_of_lt_of_le h9 hS.1) (fun h => by have := wA_one h; have := hS.1; omega)).trans (hk0 x h9)
              have hP := wX_join hP hD hk hB
              have hD := wD_same (e' := .inr (6, fT (vdF σ load (cpF (σ (3 + i)) ra (σ 1 5)) (σ (3 + i) 0) hd, st9, -1))) hD
              have hS := hS1
              refine W.widen (k := 1) (n := 3) (by omega) (by omega) ?_
              have hT : (vdF σ load (cpF (σ (3 + i)) ra (σ 1 5)) (σ (3 + i) 0) hd, st9, -1) = tryF σ i load fr to an := (by rw [← heq, tryR_no cd115])
              rw [hT] at hP hD
              exact W.aret (v := .ref xq) hx hb hr (Or.inl ⟨_, rfl⟩) (Or.inr ⟨_, rfl⟩) (fun t9 ht hW => ⟨⟨(), _, rfl, trivial, by show va_P D vwCl _ t9.heap ∧ _; rw [ht]; exact ⟨hP, hD⟩⟩, vF_R ht hS.1 hk0⟩) hS.2.2 dX7_tryLift_130
      exact loop79 ((abI (to - fr) + stF (σ (3 + i) 3) an + 1).toNat + 1) (abI (to - fr) + stF (σ (3 + i) 3) an + 1).toNat 0 fr (σ (3 + i) 3) (cpF (σ (3 + i)) fr (σ 1 5)) H locs ls (by omega) (by omega) (by omega) (by omega) (by omega) (by omega) (by unfold tryF; rw [if_neg cd4, if_neg bd19])  hP hS hk0 (lv_sub hl [5, 6, 7, 8, 9, 10, 4, 3, 2, 1, 0] rfl)
  · skip
    refine w_new (ci := 6) (fs := fT (0, 0, 0)) (C := RX4) (T := TX4) (N := 3) hx hb hts inX4 tyX4 tyX4_ok hown (hts (.classLink RX7 203 RX4) (by decide +kernel)) (hts (.instantiable RX4 3) (by decide +kernel)) (hts (.initialized RX4) (by decide +kernel)) hK hP hD hS hA rfl (fun j hj => by rcases (show j = 0 ∨ j = 1 ∨ j = 2 by omega) with rfl | rfl | rfl <;> rfl) (show 0 + 1 ≤ 1 by omega) (show 0 + 3 ≤ 3 by omega) dX7_tryLift_7 (fun xq H hxq hsz1 ho1 hP hD hS1 => ?_)
    have hk0 : ∀ x : Nat, x < s.heap.size → H[x]? = s.heap[x]? := fun x h9 => (ho1 x (Nat.lt_of_lt_of_le h9 hS.1)).trans (hk0 x h9)
    have hxs : s.heap.size ≤ xq := by rw [hxq]; exact hS.1
    have hS := hS1
    rw [List.append_nil] at hP hD
    refine lv_dup hx hb dX7_tryLift_10 rfl ?_
    refine lv_iconst (v := zI 1) hx hb dX7_tryLift_11 rfl ?_
    refine lv_iconst (v := zI (-1)) hx hb dX7_tryLift_12 rfl ?_
    refine lv_iconst (v := zI (-1)) hx hb dX7_tryLift_13 rfl ?_
    refine va_callv (va_runI (As := [.int (zI (1)), .int (zI (-1)), .int (zI (-1))]) (rest := [.ref (xq)]) ⟨hx, hb, hml, hown, hts⟩ (c_X4_init l D xq H.size (1) (-1) (-1)) (cwI 3 hts gX7_tryLift_X4_init rfl rfl rfl (hts (.initialized RX4) (by decide +kernel)) (hts (.methodLink RX7 369 yX4_init) (by decide +kernel)) (hts (.instanceMethod yX4_init) (by decide +kernel)) rfl (by decide +kernel) ⟨Nat.le_of_ble_eq_true rfl, Nat.le_of_ble_eq_true rfl⟩) ⟨fun v U g mk h => ⟨h.1, h.2.1, h.2.2.1, va_K.moved (u := U) (U := U.calling g mk v) (Vm.Alike.refl U.vm) h.2.2.2.1, h.2.2.2.2⟩, fun U hU hW => ⟨rfl, by rw [hU], by rw [hU]; exact wP_right hP, va_K.moved hW.alike (hK.sub [] rfl), wD_one⟩⟩ rfl rfl hl.1 rfl (lv_room (Nat.le_of_ble_eq_true rfl)) dX7_tryLift_14 ⟨(show 0 + 1 + 0 ≤ 1 by omega), (show 0 + 3 + 0 ≤ 3 by omega)⟩) hS (fun y _ h => (wA_one h).elim (fun e => Or.inr (by rw [e]; exact hxs)) (fun e => Or.inr (Nat.le_trans hS.1 e))) (fun y h => (wA_one h).elim (fun e => Or.inr (by rw [e]; exact hxs)) (fun e => Or.inr (Nat.le_trans hS.1 e))) (fun u9 t9 H locs ht hvm hw hB hz hk hS1 => ?_)
    have hB : va_P D vwCl [(xq, .inr (6, fT (1, -1, -1)))] t9.heap := hB
    rw [ht] at hB
    have hk0 : ∀ x : Nat, x < s.heap.size → H[x]? = s.heap[x]? := fun x h9 => (hk x (Nat.lt_of_lt_of_le h9 hS.1) (fun h => by have := wA_one h; have := hS.1; omega)).trans (hk0 x h9)
    have hP := wX_join hP hD hk hB
    have hD := wD_same (e' := .inr (6, fT (1, -1, -1))) hD
    have hS := hS1
    refine W.widen (k := 1) (n := 3) (by omega) (by omega) ?_
    have hT : (1, -1, -1) = tryF σ i load fr to an := (by unfold tryF; rw [if_pos cd4])
    rw [hT] at hP hD
    exact W.aret (v := .ref xq) hx hb hr (Or.inl ⟨_, rfl⟩) (Or.inr ⟨_, rfl⟩) (fun t9 ht hW => ⟨⟨(), _, rfl, trivial, by show va_P D vwCl _ t9.heap ∧ _; rw [ht]; exact ⟨hP, hD⟩⟩, vF_R ht hS.1 hk0⟩) hS.2.2 dX7_tryLift_17
