set_option maxHeartbeats 4000000 in
set_option maxRecDepth 100000 in
/-- X7_isNoLift -/
theorem c_X7_isNoLift (l : Launch) (D : va_G) (cy : Nat → ClassId) (a q : Nat → Nat) (σ : Nat → Nat → Int) (sz : Nat) (i : Nat) (hi : i < 3) (load : Int) (hload : rg load) (from0 : Int) (hfrom0 : rg from0) (to : Int) (hto : rg to) (angle : Int) (hangle : rg angle) (h9 : rg (σ (3 + i) 1)) : Met l yX7_isNoLift wsX7_isNoLift ({ frames := 9, cells := 0, slots := 0, locals := 300 }) (va_Pc [.ref (a (3 + i)), .int (zI (load)), .int (zI (from0)), .int (zI (to)), .int (zI (angle))] (fun U => U.heap.size = sz ∧ Wd D cy a q σ U)) (va_Qi (fun (r : Int32) (_ : Unit) => (r = zI 1 ∧ (load < 1 ∨ 199 < load ∨ from0 < 10 ∨ σ (3 + i) 1 < from0 ∨ to < 10 ∨ σ (3 + i) 1 < to ∨ angle < 0 ∨ 23 < angle)) ∨ (r = zI 0 ∧ ¬ (load < 1 ∨ 199 < load ∨ from0 < 10 ∨ σ (3 + i) 1 < from0 ∨ to < 10 ∨ σ (3 + i) 1 < to ∨ angle < 0 ∨ 23 < angle))) (fun _ _ => True) (fun _ => False)) 0 0 (wF a sz) := by
  refine Met.ofW (cc := cX7_isNoLift) (maxL := 5) (ret := (some .boolean)) (by decide) rfl ?_
  intro p e s m args below meth c s₁ B hml hpc0
  obtain ⟨rfl, hsz, hW0⟩ := hpc0
  have hx := B.exec
  have hb := B.bytes
  have hr := B.returns
  have hts := atoms_spec (ws := wsX7_isNoLift) B.pre
  have hown : s.vm.findClass RX7 = some m.cls := findClass_of_methodNamed B.named
  have hlocks := B.notSynchronized
  subst hsz
  obtain ⟨hP00, hE0⟩ := id hW0
  obtain ⟨hK, hinj, hU0, hN0, hstr, hnest⟩ := id hE0
  have hP : va_P D vwCl (wld cy a q σ ++ []) s.heap := by rw [List.append_nil]; exact hP00
  have hD : va_D (wF a s.heap.size) (wld cy a q σ ++ []) := wD_of hinj
  have hA : ∀ x : Nat, s.heap.size ≤ x → wF a s.heap.size x := fun _ h => Or.inr h
  have hS : va_S (wF a s.heap.size) s.heap s.heap [] := va_S.rf
  have hk0 : ∀ x : Nat, x < s.heap.size → s.heap[x]? = s.heap[x]? := fun _ _ => rfl
  have hl := lv_entry ([.ref (a (3 + i)), .int (zI (load)), .int (zI (from0)), .int (zI (to)), .int (zI (angle))]) (n := 5) (Nat.le_of_ble_eq_true rfl)
  rw [lg_entry_eq]
  generalize (lg_sl ([.ref (a (3 + i)), .int (zI (load)), .int (zI (from0)), .int (zI (to)), .int (zI (angle))]) ++ List.replicate (5 - (lg_sl ([.ref (a (3 + i)), .int (zI (load)), .int (zI (from0)), .int (zI (to)), .int (zI (angle))])).length) Slot.unset).toArray = ls at hl ⊢
  have hl : lv_has ls 5 [(0, .ref (a (3 + i))), (1, .int (zI (load))), (2, .int (zI (from0))), (3, .int (zI (to))), (4, .int (zI (angle)))] := hl
  have k66 := hts (.fieldLink RX7 66 "Slewfree$Crane" "reach" "I") (by decide +kernel)
  have inX0 : ∀ w ∈ u_ws RX0 TX0 12, w ∈ wsX7_isNoLift := by decide +kernel
  refine lv_iload_n hx hb dX7_isNoLift_0 rfl (lv_at hl 1 rfl) ?_
  refine lv_iconst (v := zI 1) hx hb dX7_isNoLift_1 rfl ?_
  refine lv_sipush (v := zI 199) hx hb dX7_isNoLift_2 (by decide +kernel) ?_
  refine va_calli (va_runS (As := [.int (zI (load)), .int (zI (1)), .int (zI (199))]) (rest := []) ⟨hx, hb, hml, hown, hts⟩ (c_X7_isOutside l (load) (by omega) (1) (by omega) (199) (by omega)) (va_cwS 3 hts gX7_isNoLift_X7_isOutside rfl rfl rfl (by decide +kernel) ⟨Nat.le_of_ble_eq_true rfl, Nat.le_of_ble_eq_true rfl⟩) ⟨fun _ _ _ _ h => h, fun _ _ _ => ⟨rfl, trivial⟩⟩ rfl rfl hl.1 rfl (lv_room (Nat.le_of_ble_eq_true rfl)) dX7_isNoLift_5 ⟨(show 0 + 0 ≤ 0 by omega), (show 0 + 0 ≤ 0 by omega)⟩) hS (fun _ _ h => h.elim) (fun _ h => h.elim) (fun rv5 u9 t9 H locs ht hvm hw hB hz hk hS1 => ?_)
  have hP := hP.kept (fun k x hk9 => hk x.1 ((hP k x hk9).lt) (fun h => h))
  have hk0 : ∀ x : Nat, x < s.heap.size → H[x]? = s.heap[x]? := fun x h9 => (hk x (Nat.lt_of_lt_of_le h9 hS.1) (fun h => h)).trans (hk0 x h9)
  have hS := hS1
  rcases hw with ⟨rfl, bd5⟩ | ⟨rfl, bd5⟩
  · skip
    refine z_if_ne (tgt := 45) hx hb dX7_isNoLift_8 (by decide) (by decide) (fun _ => ?_) (fun cd8 => absurd cd8 (by decide))
    refine lv_iconst (v := zI 1) hx hb dX7_isNoLift_45 rfl ?_
    refine lv_goto (tgt := 50) hx hb dX7_isNoLift_46 (by decide) ?_
    refine W.widen (k := 0) (n := 0) (by omega) (by omega) ?_
    exact W.zret (v := zI 1) (ty := .boolean) hx hb hr (by decide +kernel) (fun t9 ht hW => ⟨⟨_, (), rfl, Or.inl ⟨rfl, (by omega)⟩, trivial⟩, vF_R ht hS.1 hk0⟩) hS.2.2 dX7_isNoLift_50
  · skip
    refine z_if_ne (tgt := 45) hx hb dX7_isNoLift_8 (by decide) (by decide) (fun cd8 => absurd cd8 (by decide)) (fun _ => ?_)
    refine lv_iload_n hx hb dX7_isNoLift_11 rfl (lv_at hl 2 rfl) ?_
    refine lv_bipush (v := zI 10) hx hb dX7_isNoLift_12 (by decide +kernel) ?_
    refine lv_aload_n hx hb dX7_isNoLift_14 rfl (lv_at hl 0 rfl) ?_
    refine va_get (D := D) (ci := 2) (v := .int (zI (σ (3 + i) 1))) (C := RX0) (T := TX0) (N := 12) hx hb hts inX0 hown hK hP (3 + i) (wg_C (i := i) (by first | assumption | omega)) rfl 1 (by decide) k66 (fun _ h9 => h9) rfl dX7_isNoLift_15 ?_
    refine va_calli (va_runS (As := [.int (zI (from0)), .int (zI (10)), .int (zI (σ (3 + i) 1))]) (rest := []) ⟨hx, hb, hml, hown, hts⟩ (c_X7_isOutside l (from0) (by omega) (10) (by omega) (σ (3 + i) 1) (by omega)) (va_cwS 3 hts gX7_isNoLift_X7_isOutside rfl rfl rfl (by decide +kernel) ⟨Nat.le_of_ble_eq_true rfl, Nat.le_of_ble_eq_true rfl⟩) ⟨fun _ _ _ _ h => h, fun _ _ _ => ⟨rfl, trivial⟩⟩ rfl rfl hl.1 rfl (lv_room (Nat.le_of_ble_eq_true rfl)) dX7_isNoLift_18 ⟨(show 0 + 0 + 0 ≤ 0 by omega), (show 0 + 0 + 0 ≤ 0 by omega)⟩) hS (fun _ _ h => h.elim) (fun _ h => h.elim) (fun rv18 u9 t9 H locs ht hvm hw hB hz hk hS1 => ?_)
    have hP := hP.kept (fun k x hk9 => hk x.1 ((hP k x hk9).lt) (fun h => h))
    have hk0 : ∀ x : Nat, x < s.heap.size → H[x]? = s.heap[x]? := fun x h9 => (hk x (Nat.lt_of_lt_of_le h9 hS.1) (fun h => h)).trans (hk0 x h9)
    have hS := hS1
    rcases hw with ⟨rfl, bd18⟩ | ⟨rfl, bd18⟩
    · skip
      refine z_if_ne (tgt := 45) hx hb dX7_isNoLift_21 (by decide) (by decide) (fun _ => ?_) (fun cd21 => absurd cd21 (by decide))
      refine lv_iconst (v := zI 1) hx hb dX7_isNoLift_45 rfl ?_
      refine lv_goto (tgt := 50) hx hb dX7_isNoLift_46 (by decide) ?_
      refine W.widen (k := 0) (n := 0) (by omega) (by omega) ?_
      exact W.zret (v := zI 1) (ty := .boolean) hx hb hr (by decide +kernel) (fun t9 ht hW => ⟨⟨_, (), rfl, Or.inl ⟨rfl, (by omega)⟩, trivial⟩, vF_R ht hS.1 hk0⟩) hS.2.2 dX7_isNoLift_50
    · skip
      refine z_if_ne (tgt := 45) hx hb dX7_isNoLift_21 (by decide) (by decide) (fun cd21 => absurd cd21 (by decide)) (fun _ => ?_)
      refine lv_iload_n hx hb dX7_isNoLift_24 rfl (lv_at hl 3 rfl) ?_
      refine lv_bipush (v := zI 10) hx hb dX7_isNoLift_25 (by decide +kernel) ?_
      refine lv_aload_n hx hb dX7_isNoLift_27 rfl (lv_at hl 0 rfl) ?_
      refine va_get (D := D) (ci := 2) (v := .int (zI (σ (3 + i) 1))) (C := RX0) (T := TX0) (N := 12) hx hb hts inX0 hown hK hP (3 + i) (wg_C (i := i) (by first | assumption | omega)) rfl 1 (by decide) k66 (fun _ h9 => h9) rfl dX7_isNoLift_28 ?_
      refine va_calli (va_runS (As := [.int (zI (to)), .int (zI (10)), .int (zI (σ (3 + i) 1))]) (rest := []) ⟨hx, hb, hml, hown, hts⟩ (c_X7_isOutside l (to) (by omega) (10) (by omega) (σ (3 + i) 1) (by omega)) (va_cwS 3 hts gX7_isNoLift_X7_isOutside rfl rfl rfl (by decide +kernel) ⟨Nat.le_of_ble_eq_true rfl, Nat.le_of_ble_eq_true rfl⟩) ⟨fun _ _ _ _ h => h, fun _ _ _ => ⟨rfl, trivial⟩⟩ rfl rfl hl.1 rfl (lv_room (Nat.le_of_ble_eq_true rfl)) dX7_isNoLift_31 ⟨(show 0 + 0 + 0 + 0 ≤ 0 by omega), (show 0 + 0 + 0 + 0 ≤ 0 by omega)⟩) hS (fun _ _ h => h.elim) (fun _ h => h.elim) (fun rv31 u9 t9 H locs ht hvm hw hB hz hk hS1 => ?_)
      have hP := hP.kept (fun k x hk9 => hk x.1 ((hP k x hk9).lt) (fun h => h))
      have hk0 : ∀ x : Nat, x < s.heap.size → H[x]? = s.heap[x]? := fun x h9 => (hk x (Nat.lt_of_lt_of_le h9 hS.1) (fun h => h)).trans (hk0 x h9)
      have hS := hS1
      rcases hw with ⟨rfl, bd31⟩ | ⟨rfl, bd31⟩
      · skip
        refine z_if_ne (tgt := 45) hx hb dX7_isNoLift_34 (by decide) (by decide) (fun _ => ?_) (fun cd34 => absurd cd34 (by decide))
        refine lv_iconst (v := zI 1) hx hb dX7_isNoLift_45 rfl ?_
        refine lv_goto (tgt := 50) hx hb dX7_isNoLift_46 (by decide) ?_
        refine W.widen (k := 0) (n := 0) (by omega) (by omega) ?_
        exact W.zret (v := zI 1) (ty := .boolean) hx hb hr (by decide +kernel) (fun t9 ht hW => ⟨⟨_, (), rfl, Or.inl ⟨rfl, (by omega)⟩, trivial⟩, vF_R ht hS.1 hk0⟩) hS.2.2 dX7_isNoLift_50
      · skip
        refine z_if_ne (tgt := 45) hx hb dX7_isNoLift_34 (by decide) (by decide) (fun cd34 => absurd cd34 (by decide)) (fun _ => ?_)
        refine lv_iload hx hb dX7_isNoLift_37 (lv_at hl 4 rfl) ?_
        refine va_calli (va_runS (As := [.int (zI (angle))]) (rest := []) ⟨hx, hb, hml, hown, hts⟩ (c_X7_isNoAngle l (angle) (by omega)) (va_cwS 1 hts gX7_isNoLift_X7_isNoAngle rfl rfl rfl (by decide +kernel) ⟨Nat.le_of_ble_eq_true rfl, Nat.le_of_ble_eq_true rfl⟩) ⟨fun _ _ _ _ h => h, fun _ _ _ => ⟨rfl, trivial⟩⟩ rfl rfl hl.1 rfl (lv_room (Nat.le_of_ble_eq_true rfl)) dX7_isNoLift_39 ⟨(show 0 + 0 + 0 + 0 + 0 ≤ 0 by omega), (show 0 + 0 + 0 + 0 + 0 ≤ 0 by omega)⟩) hS (fun _ _ h => h.elim) (fun _ h => h.elim) (fun rv39 u9 t9 H locs ht hvm hw hB hz hk hS1 => ?_)
        have hP := hP.kept (fun k x hk9 => hk x.1 ((hP k x hk9).lt) (fun h => h))
        have hk0 : ∀ x : Nat, x < s.heap.size → H[x]? = s.heap[x]? := fun x h9 => (hk x (Nat.lt_of_lt_of_le h9 hS.1) (fun h => h)).trans (hk0 x h9)
        have hS := hS1
        rcases hw with ⟨rfl, bd39⟩ | ⟨rfl, bd39⟩
        · skip
          refine z_if_eq (tgt := 49) hx hb dX7_isNoLift_42 (by decide) (by decide) (fun cd42 => absurd cd42 (by decide)) (fun _ => ?_)
          refine lv_iconst (v := zI 1) hx hb dX7_isNoLift_45 rfl ?_
          refine lv_goto (tgt := 50) hx hb dX7_isNoLift_46 (by decide) ?_
          refine W.widen (k := 0) (n := 0) (by omega) (by omega) ?_
          exact W.zret (v := zI 1) (ty := .boolean) hx hb hr (by decide +kernel) (fun t9 ht hW => ⟨⟨_, (), rfl, Or.inl ⟨rfl, (by omega)⟩, trivial⟩, vF_R ht hS.1 hk0⟩) hS.2.2 dX7_isNoLift_50
        · skip
          refine z_if_eq (tgt := 49) hx hb dX7_isNoLift_42 (by decide) (by decide) (fun _ => ?_) (fun cd42 => absurd cd42 (by decide))
          refine lv_iconst (v := zI 0) hx hb dX7_isNoLift_49 rfl ?_
          refine W.widen (k := 0) (n := 0) (by omega) (by omega) ?_
          exact W.zret (v := zI 0) (ty := .boolean) hx hb hr (by decide +kernel) (fun t9 ht hW => ⟨⟨_, (), rfl, Or.inr ⟨rfl, (by omega)⟩, trivial⟩, vF_R ht hS.1 hk0⟩) hS.2.2 dX7_isNoLift_50

set_option maxHeartbeats 4000000 in
set_option maxRecDepth 100000 in
/-- X7_isNoPage -/
theorem c_X7_isNoPage (l : Launch) (D : va_G) (cy : Nat → ClassId) (a q : Nat → Nat) (σ : Nat → Nat → Int) (sz : Nat) (n : Int) (hn : rg n) (h9 : 0 ≤ σ 20 1 ∧ σ 20 1 ≤ 40) : Met l yX7_isNoPage wsX7_isNoPage ({ frames := 8, cells := 0, slots := 0, locals := 200 }) (va_Pc [.ref (a 0), .int (zI (n))] (fun U => U.heap.size = sz ∧ Wd D cy a q σ U)) (va_Qi (fun (r : Int32) (_ : Unit) => (r = zI 1 ∧ (n < 0 ∨ σ 20 1 - 1 < n)) ∨ (r = zI 0 ∧ ¬ (n < 0 ∨ σ 20 1 - 1 < n))) (fun _ _ => True) (fun _ => False)) 0 0 (wF a sz) := by
  refine Met.ofW (cc := cX7_isNoPage) (maxL := 2) (ret := (some .boolean)) (by decide) rfl ?_
  intro p e s m args below meth c s₁ B hml hpc0
  obtain ⟨rfl, hsz, hW0⟩ := hpc0
  have hx := B.exec
  have hb := B.bytes
  have hr := B.returns
  have hts := atoms_spec (ws := wsX7_isNoPage) B.pre
  have hown : s.vm.findClass RX7 = some m.cls := findClass_of_methodNamed B.named
  have hlocks := B.notSynchronized
  subst hsz
  obtain ⟨hP00, hE0⟩ := id hW0
  obtain ⟨hK, hinj, hU0, hN0, hstr, hnest⟩ := id hE0
  have hP : va_P D vwCl (wld cy a q σ ++ []) s.heap := by rw [List.append_nil]; exact hP00
  have hD : va_D (wF a s.heap.size) (wld cy a q σ ++ []) := wD_of hinj
  have hA : ∀ x : Nat, s.heap.size ≤ x → wF a s.heap.size x := fun _ h => Or.inr h
  have hS : va_S (wF a s.heap.size) s.heap s.heap [] := va_S.rf
  have hk0 : ∀ x : Nat, x < s.heap.size → s.heap[x]? = s.heap[x]? := fun _ _ => rfl
  have hl := lv_entry ([.ref (a 0), .int (zI (n))]) (n := 2) (Nat.le_of_ble_eq_true rfl)
  rw [lg_entry_eq]
  generalize (lg_sl ([.ref (a 0), .int (zI (n))]) ++ List.replicate (2 - (lg_sl ([.ref (a 0), .int (zI (n))])).length) Slot.unset).toArray = ls at hl ⊢
  have hl : lv_has ls 2 [(0, .ref (a 0)), (1, .int (zI (n)))] := hl
  have k42 := hts (.fieldLink RX7 42 "Slewfree" "log" "LSlewfree$Log;") (by decide +kernel)
  have k283 := hts (.fieldLink RX7 283 "Slewfree$Log" "count" "I") (by decide +kernel)
  have inX1 : ∀ w ∈ u_ws RX1 TX1 4, w ∈ wsX7_isNoPage := by decide +kernel
  have inX7 : ∀ w ∈ u_ws RX7 TX7 9, w ∈ wsX7_isNoPage := by decide +kernel
  refine lv_iload_n hx hb dX7_isNoPage_0 rfl (lv_at hl 1 rfl) ?_
  refine lv_iconst (v := zI 0) hx hb dX7_isNoPage_1 rfl ?_
  refine lv_aload_n hx hb dX7_isNoPage_2 rfl (lv_at hl 0 rfl) ?_
  refine va_get (D := D) (ci := 9) (v := .ref (a 20)) (C := RX7) (T := TX7) (N := 9) hx hb hts inX7 hown hK hP 0 wg_S rfl 4 (by decide) k42 (fun _ h9 => h9) rfl dX7_isNoPage_3 ?_
  refine va_get (D := D) (ci := 3) (v := .int (zI (σ 20 1))) (C := RX1) (T := TX1) (N := 4) hx hb hts inX1 hown hK hP 20 wg_L rfl 1 (by decide) k283 (fun _ h9 => h9) rfl dX7_isNoPage_6 ?_
  refine lv_iconst (v := zI 1) hx hb dX7_isNoPage_9 rfl ?_
  refine z_isub hx hb dX7_isNoPage_10 ?_
  refine va_calli (va_runS (As := [.int (zI (n)), .int (zI (0)), .int (zI ((σ 20 1) - 1))]) (rest := []) ⟨hx, hb, hml, hown, hts⟩ (c_X7_isOutside l (n) (by omega) (0) (by omega) ((σ 20 1) - 1) (by omega)) (va_cwS 3 hts gX7_isNoPage_X7_isOutside rfl rfl rfl (by decide +kernel) ⟨Nat.le_of_ble_eq_true rfl, Nat.le_of_ble_eq_true rfl⟩) ⟨fun _ _ _ _ h => h, fun _ _ _ => ⟨rfl, trivial⟩⟩ rfl rfl hl.1 rfl (lv_room (Nat.le_of_ble_eq_true rfl)) dX7_isNoPage_11 ⟨(show 0 + 0 ≤ 0 by omega), (show 0 + 0 ≤ 0 by omega)⟩) hS (fun _ _ h => h.elim) (fun _ h => h.elim) (fun rv11 u9 t9 H locs ht hvm hw hB hz hk hS1 => ?_)
  have hP := hP.kept (fun k x hk9 => hk x.1 ((hP k x hk9).lt) (fun h => h))
  have hk0 : ∀ x : Nat, x < s.heap.size → H[x]? = s.heap[x]? := fun x h9 => (hk x (Nat.lt_of_lt_of_le h9 hS.1) (fun h => h)).trans (hk0 x h9)
  have hS := hS1
  rcases hw with ⟨rfl, bd11⟩ | ⟨rfl, bd11⟩
  · skip
    refine W.widen (k := 0) (n := 0) (by omega) (by omega) ?_
    exact W.zret (v := zI 1) (ty := .boolean) hx hb hr (by decide +kernel) (fun t9 ht hW => ⟨⟨_, (), rfl, Or.inl ⟨rfl, (by omega)⟩, trivial⟩, vF_R ht hS.1 hk0⟩) hS.2.2 dX7_isNoPage_14
  · skip
    refine W.widen (k := 0) (n := 0) (by omega) (by omega) ?_
    exact W.zret (v := zI 0) (ty := .boolean) hx hb hr (by decide +kernel) (fun t9 ht hW => ⟨⟨_, (), rfl, Or.inr ⟨rfl, (by omega)⟩, trivial⟩, vF_R ht hS.1 hk0⟩) hS.2.2 dX7_isNoPage_14

set_option maxRecDepth 100000 in
theorem vt234_X7_craneAt : ∀ w ∈ (vx_atS RX7 234 "java/lang/IndexOutOfBoundsException" ["java/lang/RuntimeException", "java/lang/Exception"]).filter goodWord, w ∈ wsX7_craneAt := by decide +kernel
set_option maxHeartbeats 4000000 in
set_option maxRecDepth 100000 in
/-- X7_craneAt -/
theorem c_X7_craneAt (l : Launch) (hlT : l.stackTraces = false) (D : va_G) (cy : Nat → ClassId) (a q : Nat → Nat) (σ : Nat → Nat → Int) (sz : Nat) (n : Int) (hn : rg n) (h9 : 0 ≤ σ 0 5 ∧ σ 0 5 ≤ 3) : vx_Met l yX7_craneAt wsX7_craneAt ({ frames := 9, cells := 1, slots := 6, locals := 300 }) (va_Pc [.ref (a 0), .int (zI (n))] (fun U => U.heap.size = sz ∧ Wd D cy a q σ U)) (va_Qr (fun (i : Nat) => (i : Int) = n ∧ n < σ 0 5 ∧ i < 3) (fun (i : Nat) x _ => x = a (3 + i)) (fun _ => False)) (vx_X (fun (_ : Unit) => n < 0 ∨ σ 0 5 ≤ n) (fun E _ _ => okE E) (fun _ => False)) 1 6 (wF a sz) := by
  refine vx_ofW (cc := cX7_craneAt) (maxL := 2) (ret := (some (.object "Slewfree$Crane"))) (by decide) rfl ?_
  intro p e s m args below meth c s₁ B hml hexc hpc0
  obtain ⟨rfl, hsz, hW0⟩ := hpc0
  have hx := B.exec
  have hb := B.bytes
  have hr := B.returns
  have hts := atoms_spec (ws := wsX7_craneAt) B.pre
  have hown : s.vm.findClass RX7 = some m.cls := findClass_of_methodNamed B.named
  have hlocks := B.notSynchronized
  subst hsz
  obtain ⟨hP00, hE0⟩ := id hW0
  obtain ⟨hK, hinj, hU0, hN0, hstr, hnest⟩ := id hE0
  have hP : va_P D vwCl (wld cy a q σ ++ []) s.heap := by rw [List.append_nil]; exact hP00
  have hD : va_D (wF a s.heap.size) (wld cy a q σ ++ []) := wD_of hinj
  have hA : ∀ x : Nat, s.heap.size ≤ x → wF a s.heap.size x := fun _ h => Or.inr h
  have hS : va_S (wF a s.heap.size) s.heap s.heap [] := va_S.rf
  have hk0 : ∀ x : Nat, x < s.heap.size → s.heap[x]? = s.heap[x]? := fun _ _ => rfl
  have hl := lv_entry ([.ref (a 0), .int (zI (n))]) (n := 2) (Nat.le_of_ble_eq_true rfl)
  rw [lg_entry_eq]
  generalize (lg_sl ([.ref (a 0), .int (zI (n))]) ++ List.replicate (2 - (lg_sl ([.ref (a 0), .int (zI (n))])).length) Slot.unset).toArray = ls at hl ⊢
  have hl : lv_has ls 2 [(0, .ref (a 0)), (1, .int (zI (n)))] := hl
  have k18 := hts (.fieldLink RX7 18 "Slewfree" "cranes" "[LSlewfree$Crane;") (by decide +kernel)
  have k57 := hts (.fieldLink RX7 57 "Slewfree" "craneCount" "I") (by decide +kernel)
  have inX7 : ∀ w ∈ u_ws RX7 TX7 9, w ∈ wsX7_craneAt := by decide +kernel
  refine lv_iload_n hx hb dX7_craneAt_0 rfl (lv_at hl 1 rfl) ?_
  refine lv_iconst (v := zI 0) hx hb dX7_craneAt_1 rfl ?_
  refine lv_aload_n hx hb dX7_craneAt_2 rfl (lv_at hl 0 rfl) ?_
  refine va_get (D := D) (ci := 9) (v := .int (zI (σ 0 5))) (C := RX7) (T := TX7) (N := 9) hx hb hts inX7 hown hK hP 0 wg_S rfl 5 (by decide) k57 (fun _ h9 => h9) rfl dX7_craneAt_3 ?_
  refine lv_iconst (v := zI 1) hx hb dX7_craneAt_6 rfl ?_
  refine z_isub hx hb dX7_craneAt_7 ?_
  refine va_calli (va_runS (As := [.int (zI (n)), .int (zI (0)), .int (zI ((σ 0 5) - 1))]) (rest := []) ⟨hx, hb, hml, hown, hts⟩ (c_X7_isOutside l (n) (by omega) (0) (by omega) ((σ 0 5) - 1) (by omega)) (va_cwS 3 hts gX7_craneAt_X7_isOutside rfl rfl rfl (by decide +kernel) ⟨Nat.le_of_ble_eq_true rfl, Nat.le_of_ble_eq_true rfl⟩) ⟨fun _ _ _ _ h => h, fun _ _ _ => ⟨rfl, trivial⟩⟩ rfl rfl hl.1 rfl (lv_room (Nat.le_of_ble_eq_true rfl)) dX7_craneAt_8 ⟨(show 0 + 0 ≤ 1 by omega), (show 0 + 0 ≤ 6 by omega)⟩) hS (fun _ _ h => h.elim) (fun _ h => h.elim) (fun rv8 u9 t9 H locs ht hvm hw hB hz hk hS1 => ?_)
  have hP := hP.kept (fun k x hk9 => hk x.1 ((hP k x hk9).lt) (fun h => h))
  have hk0 : ∀ x : Nat, x < s.heap.size → H[x]? = s.heap[x]? := fun x h9 => (hk x (Nat.lt_of_lt_of_le h9 hS.1) (fun h => h)).trans (hk0 x h9)
  have hS := hS1
  rcases hw with ⟨rfl, bd8⟩ | ⟨rfl, bd8⟩
  · skip
    refine z_if_eq (tgt := 25) hx hb dX7_craneAt_11 (by decide) (by decide) (fun cd11 => absurd cd11 (by decide)) (fun _ => ?_)
    obtain ⟨sa9, hsa9⟩ := hstr (353, "no such crane") (by decide)
    exact vx_throwSW (names := ["java/lang/RuntimeException", "java/lang/Exception"]) (sa := sa9) hx hb hlT hown (by decide +kernel) (by decide +kernel) (hts (.classLink RX7 230 "java/lang/IndexOutOfBoundsException") (by decide +kernel)) (hts (.initialized "java/lang/IndexOutOfBoundsException") (by decide +kernel)) hsa9 (vx_hat (fun w h => hts w (vt234_X7_craneAt w h)) vf234 hnest.2.2.2.2.bad) vg234 hU0 hN0 hS (by rw [hml]; exact hl.1) dX7_craneAt_14 dX7_craneAt_17 dX7_craneAt_18 dX7_craneAt_21 dX7_craneAt_24 (fun x h => (hexc x h).elim) (Nat.le_of_ble_eq_true rfl) (Nat.le_of_ble_eq_true rfl) (show 0 + 0 + 1 ≤ 1 by omega) (show 0 + 0 + 6 ≤ 6 by omega) hlocks (fun t9 hvm9 hz9 hk9 => ⟨(), (by omega), okE_I, Nat.le_trans hS.1 hz9, fun x h9 _ => (hk9 x (Nat.lt_of_lt_of_le h9 hS.1)).trans (hk0 x h9)⟩) hS.2.2 (by omega) (by omega)
  · skip
    refine z_if_eq (tgt := 25) hx hb dX7_craneAt_11 (by decide) (by decide) (fun _ => ?_) (fun cd11 => absurd cd11 (by decide))
    obtain ⟨i, hi9⟩ : ∃ i : Nat, n = (i : Int) := ⟨n.toNat, by omega⟩
    refine lv_aload_n hx hb dX7_craneAt_25 rfl (lv_at hl 0 rfl) ?_
    refine va_get (D := D) (ci := 9) (v := .ref (a 2)) (C := RX7) (T := TX7) (N := 9) hx hb hts inX7 hown hK hP 0 wg_S rfl 1 (by decide) k18 (fun _ h9 => h9) rfl dX7_craneAt_26 ?_
    refine lv_iload_n hx hb dX7_craneAt_29 rfl (lv_at hl 1 rfl) ?_
    refine z_aald (i := i) hx hb hK hP 2 0 wg_AC rfl (by omega) (by omega) (by omega) dX7_craneAt_30 ?_
    refine vx_ret ?_
    refine W.widen (k := 1) (n := 6) (by omega) (by omega) ?_
    exact W.aret (v := .ref (a (3 + i))) hx hb hr (Or.inl ⟨_, rfl⟩) (Or.inr ⟨_, rfl⟩) (fun t9 ht hW => ⟨⟨i, _, rfl, (by omega), rfl⟩, vF_R ht hS.1 hk0⟩) hS.2.2 dX7_craneAt_31

set_option maxHeartbeats 4000000 in
set_option maxRecDepth 100000 in
/-- X7_shutZones -/
theorem c_X7_shutZones (l : Launch) (D : va_G) (cy : Nat → ClassId) (a q : Nat → Nat) (σ : Nat → Nat → Int) (sz : Nat) (t0 : Int) (wi : Int) (hO : okA t0 wi q σ) : Met l yX7_shutZones wsX7_shutZones ({ frames := 9, cells := 0, slots := 0, locals := 300 }) (va_Pc [.ref (a 0)] (fun U => U.heap.size = sz ∧ Wd D cy a q σ U)) (va_Qi (fun (r : Int32) (_ : Unit) => r = zI (shN σ (σ 0 6).toNat)) (fun _ _ => True) (fun _ => False)) 0 0 (wF a sz) := by
  refine Met.ofW (cc := cX7_shutZones) (maxL := 4) (ret := (some .int)) (by decide) rfl ?_
  intro p e s m args below meth c s₁ B hml hpc0
  obtain ⟨rfl, hsz, hW0⟩ := hpc0
  have hx := B.exec
  have hb := B.bytes
  have hr := B.returns
  have hts := atoms_spec (ws := wsX7_shutZones) B.pre
  have hown : s.vm.findClass RX7 = some m.cls := findClass_of_methodNamed B.named
  have hlocks := B.notSynchronized
  subst hsz
  obtain ⟨hP00, hE0⟩ := id hW0
  obtain ⟨hK, hinj, hU0, hN0, hstr, hnest⟩ := id hE0
  have hP : va_P D vwCl (wld cy a q σ ++ []) s.heap := by rw [List.append_nil]; exact hP00
  have hD : va_D (wF a s.heap.size) (wld cy a q σ ++ []) := wD_of hinj
  have hA : ∀ x : Nat, s.heap.size ≤ x → wF a s.heap.size x := fun _ h => Or.inr h
  have hS : va_S (wF a s.heap.size) s.heap s.heap [] := va_S.rf
  have hk0 : ∀ x : Nat, x < s.heap.size → s.heap[x]? = s.heap[x]? := fun _ _ => rfl
  have hl := lv_entry ([.ref (a 0)]) (n := 4) (Nat.le_of_ble_eq_true rfl)
  rw [lg_entry_eq]
  generalize (lg_sl ([.ref (a 0)]) ++ List.replicate (4 - (lg_sl ([.ref (a 0)])).length) Slot.unset).toArray = ls at hl ⊢
  have hl : lv_has ls 4 [(0, .ref (a 0))] := hl
  have k10 := hts (.fieldLink RX7 10 "Slewfree" "weather" "LSlewfree$Weather;") (by decide +kernel)
  have k27 := hts (.fieldLink RX7 27 "Slewfree" "zones" "[LSlewfree$Zone;") (by decide +kernel)
  have k117 := hts (.fieldLink RX7 117 "Slewfree" "zoneCount" "I") (by decide +kernel)
  have inX7 : ∀ w ∈ u_ws RX7 TX7 9, w ∈ wsX7_shutZones := by decide +kernel
  obtain ⟨oS, oW, oC, oZ, oM, oL, oP, oQ, oH⟩ := id hO
  unfold okS at oS; unfold okW at oW; unfold okL at oL
  have hrb : 0 ≤ hrF (σ 1) ∧ hrF (σ 1) ≤ 23 := by unfold hrF; omega
  refine lv_aload_n hx hb dX7_shutZones_0 rfl (lv_at hl 0 rfl) ?_
  refine va_get (D := D) (ci := 9) (v := .ref (a 1)) (C := RX7) (T := TX7) (N := 9) hx hb hts inX7 hown hK hP 0 wg_S rfl 0 (by decide) k10 (fun _ h9 => h9) rfl dX7_shutZones_1 ?_
  refine va_calli (va_runV (As := []) (rest := []) ⟨hx, hb, hml, hown, hts⟩ (c_X5_hour l D cy a q σ s.heap.size (by omega)) (cwV 0 hts gX7_shutZones_X5_hour rfl rfl rfl (by decide +kernel) ⟨Nat.le_of_ble_eq_true rfl, Nat.le_of_ble_eq_true rfl⟩) ⟨Wd_blind, va_recv hK hP (ci := 7) (q0 := 1) rfl wg_W, fun U hU hW => ⟨rfl, by rw [hU], Wd_mk (wP_left hP) hE0 hS hU hW⟩⟩ rfl rfl hl.1 rfl (lv_room (Nat.le_of_ble_eq_true rfl)) dX7_shutZones_4 ⟨(show 0 + 0 ≤ 0 by omega), (show 0 + 0 ≤ 0 by omega)⟩) hS (fun _ _ h => h.elim) (fun _ h => wF_mono hS.1 _ h) (fun rv4 u9 t9 H locs ht hvm hw hB hz hk hS1 => ?_)
  have hP := hP.kept (fun k x hk9 => hk x.1 ((hP k x hk9).lt) (fun h => h))
  have hk0 : ∀ x : Nat, x < s.heap.size → H[x]? = s.heap[x]? := fun x h9 => (hk x (Nat.lt_of_lt_of_le h9 hS.1) (fun h => h)).trans (hk0 x h9)
  have hS := hS1
  obtain rfl := hw
  refine lv_istore_n (lv' := [(1, .int (zI (hrF (σ 1)))), (0, .ref (a 0))]) hx hb dX7_shutZones_7 rfl hl (by decide) rfl (fun ls hl => ?_)
  refine lv_iconst (v := zI 0) hx hb dX7_shutZones_8 rfl ?_
  refine lv_istore_n (lv' := [(2, .int (zI (0))), (1, .int (zI (hrF (σ 1)))), (0, .ref (a 0))]) hx hb dX7_shutZones_9 rfl hl (by decide) rfl (fun ls hl => ?_)
  refine lv_iconst (v := zI 0) hx hb dX7_shutZones_10 rfl ?_
  refine lv_istore_n (lv' := [(3, .int (zI (0))), (2, .int (zI (0))), (1, .int (zI (hrF (σ 1)))), (0, .ref (a 0))]) hx hb dX7_shutZones_11 rfl hl (by decide) rfl (fun ls hl => ?_)
  have loop12 : ∀ (n : Nat) (i : Nat) (g : Int) (H : Heap) (locs : List Loc) (ls : Array Slot), 6 - i < n → ((i : Int) ≤ σ 0 6) → (g = shN σ i) → va_P D vwCl (wld cy a q σ ++ []) H → va_S (wF a s.heap.size) s.heap H locs → (∀ x : Nat, x < s.heap.size → H[x]? = s.heap[x]?) → lv_has ls 4 [(0, .ref (a 0)), (1, .int (zI (hrF (σ 1)))), (2, .int (zI (g))), (3, .int (zI ((i : Int))))] → W p l e (headSpec wsX7_shutZones ({ frames := 9, cells := 0, slots := 0, locals := 300 })).room s m ([.ref (a 0)] : List Value).toArray below meth c H locs (0 + 0) (0 + 0) (MQ below (va_Qi (fun (r : Int32) (_ : Unit) => r = zI (shN σ (σ 0 6).toNat)) (fun _ _ => True) (fun _ => False)) ([.ref (a 0)] : List Value).toArray s 0 0 (wF a s.heap.size)) (F0 m 12 ls []) := by
    intro n
    induction n with
    | zero => intro i g H locs ls h0; exact absurd h0 (Nat.not_lt_zero _)
    | succ n ih12 =>
      intro i g H locs ls hms hi hg hP hS hk0 hl
      refine lv_iload_n hx hb dX7_shutZones_12 rfl (lv_at hl 3 rfl) ?_
      refine lv_aload_n hx hb dX7_shutZones_13 rfl (lv_at hl 0 rfl) ?_
      refine va_get (D := D) (ci := 9) (v := .int (zI (σ 0 6))) (C := RX7) (T := TX7) (N := 9) hx hb hts inX7 hown hK hP 0 wg_S rfl 6 (by decide) k117 (fun _ h9 => h9) rfl dX7_shutZones_14 ?_
      refine z_icmp_ge (tgt := 42) hx hb dX7_shutZones_17 (by decide) (by omega) (by omega) (fun cd17 => ?_) (fun cd17 => ?_)
      · skip
        refine lv_iload_n hx hb dX7_shutZones_42 rfl (lv_at hl 2 rfl) ?_
        refine W.widen (k := 0) (n := 0) (by omega) (by omega) ?_
        exact W.iret (v := zI (g)) hx hb hr (fun t9 ht hW => ⟨⟨_, (), rfl, (by congr 1; rw [hg]; congr 1; omega), trivial⟩, vF_R ht hS.1 hk0⟩) hS.2.2 dX7_shutZones_43
      · skip
        refine lv_aload_n hx hb dX7_shutZones_20 rfl (lv_at hl 0 rfl) ?_
        refine va_get (D := D) (ci := 9) (v := .ref (a 6)) (C := RX7) (T := TX7) (N := 9) hx hb hts inX7 hown hK hP 0 wg_S rfl 2 (by decide) k27 (fun _ h9 => h9) rfl dX7_shutZones_21 ?_
        refine lv_iload_n hx hb dX7_shutZones_24 rfl (lv_at hl 3 rfl) ?_
        refine z_aald (i := i) hx hb hK hP 6 1 wg_AZ rfl (by omega) (by omega) (by omega) dX7_shutZones_25 ?_
        refine lv_iload_n hx hb dX7_shutZones_26 rfl (lv_at hl 1 rfl) ?_
        refine va_calli (va_runV (As := [.int (zI (hrF (σ 1)))]) (rest := []) ⟨hx, hb, hml, hown, hts⟩ (c_X6_isShutAt l D cy a q σ H.size i (by first | assumption | omega) (hrF (σ 1)) (by omega) (oZ i (by omega))) (cwV 1 hts gX7_shutZones_X6_isShutAt rfl rfl rfl (by decide +kernel) ⟨Nat.le_of_ble_eq_true rfl, Nat.le_of_ble_eq_true rfl⟩) ⟨Wd_blind, va_recv hK hP (ci := 8) (q0 := (7 + i)) rfl (wg_Z (i := i) (by first | assumption | omega)), fun U hU hW => ⟨rfl, by rw [hU], Wd_mk (wP_left hP) hE0 hS hU hW⟩⟩ rfl rfl hl.1 rfl (lv_room (Nat.le_of_ble_eq_true rfl)) dX7_shutZones_27 ⟨(show 0 + 0 + 0 ≤ 0 by omega), (show 0 + 0 + 0 ≤ 0 by omega)⟩) hS (fun _ _ h => h.elim) (fun _ h => wF_mono hS.1 _ h) (fun rv27 u9 t9 H locs ht hvm hw hB hz hk hS1 => ?_)
        have hP := hP.kept (fun k x hk9 => hk x.1 ((hP k x hk9).lt) (fun h => h))
        have hk0 : ∀ x : Nat, x < s.heap.size → H[x]? = s.heap[x]? := fun x h9 => (hk x (Nat.lt_of_lt_of_le h9 hS.1) (fun h => h)).trans (hk0 x h9)
        have hS := hS1
        rcases hw with ⟨rfl, bd27⟩ | ⟨rfl, bd27⟩
        · skip
          refine z_if_eq (tgt := 36) hx hb dX7_shutZones_30 (by decide) (by decide) (fun cd30 => absurd cd30 (by decide)) (fun _ => ?_)
          refine lv_iinc (v := zI (g + 1)) (lv' := [(2, .int (zI (g + 1))), (0, .ref (a 0)), (1, .int (zI (hrF (σ 1)))), (3, .int (zI ((i : Int))))]) hx hb dX7_shutZones_33 hl (k := 2) rfl (zI_add _ _) (by decide) rfl (fun ls hl => ?_)
          refine lv_iinc (v := zI ((i : Int) + 1)) (lv' := [(3, .int (zI ((i : Int) + 1))), (2, .int (zI (g + 1))), (0, .ref (a 0)), (1, .int (zI (hrF (σ 1))))]) hx hb dX7_shutZones_36 hl (k := 3) rfl (zI_add _ _) (by decide) rfl (fun ls hl => ?_)
          refine lv_goto (tgt := 12) hx hb dX7_shutZones_39 (by decide) ?_
          exact ih12 (i + 1) (g + 1) H locs ls (by omega) (by omega) (by simp only [shN]; split <;> omega)  hP hS hk0 (by have h9 := lv_sub hl [2, 3, 1, 0] rfl; exact h9)
        · skip
          refine z_if_eq (tgt := 36) hx hb dX7_shutZones_30 (by decide) (by decide) (fun _ => ?_) (fun cd30 => absurd cd30 (by decide))
          refine lv_iinc (v := zI ((i : Int) + 1)) (lv' := [(3, .int (zI ((i : Int) + 1))), (0, .ref (a 0)), (1, .int (zI (hrF (σ 1)))), (2, .int (zI (g)))]) hx hb dX7_shutZones_36 hl (k := 3) rfl (zI_add _ _) (by decide) rfl (fun ls hl => ?_)
          refine lv_goto (tgt := 12) hx hb dX7_shutZones_39 (by decide) ?_
          exact ih12 (i + 1) (g) H locs ls (by omega) (by omega) (by simp only [shN]; split <;> omega)  hP hS hk0 (by have h9 := lv_sub hl [1, 2, 3, 0] rfl; exact h9)
  exact loop12 (7) 0 0 H locs ls (by omega) (by omega) rfl  hP hS hk0 (lv_sub hl [3, 2, 1, 0] rfl)

set_option maxHeartbeats 4000000 in
set_option maxRecDepth 100000 in
/-- X7_isInShutZone -/
theorem c_X7_isInShutZone (l : Launch) (D : va_G) (cy : Nat → ClassId) (a q : Nat → Nat) (σ : Nat → Nat → Int) (sz : Nat) (i : Nat) (hi : i < 3) (hd : Int) (hhd : rg hd) (hd9 : 0 ≤ hd ∧ hd ≤ 24) (t0 : Int) (wi : Int) (hO : okA t0 wi q σ) : Met l yX7_isInShutZone wsX7_isInShutZone ({ frames := 10, cells := 0, slots := 0, locals := 400 }) (va_Pc [.ref (a 0), .ref (a (3 + i)), .int (zI (hd))] (fun U => U.heap.size = sz ∧ Wd D cy a q σ U)) (va_Qi (fun (r : Int32) (_ : Unit) => (r = zI 1 ∧ (zoP σ (σ (3 + i) 0) hd)) ∨ (r = zI 0 ∧ ¬ (zoP σ (σ (3 + i) 0) hd))) (fun _ _ => True) (fun _ => False)) 0 0 (wF a sz) := by
  refine Met.ofW (cc := cX7_isInShutZone) (maxL := 5) (ret := (some .boolean)) (by decide) rfl ?_
  intro p e s m args below meth c s₁ B hml hpc0
  obtain ⟨rfl, hsz, hW0⟩ := hpc0
  have hx := B.exec
  have hb := B.bytes
  have hr := B.returns
  have hts := atoms_spec (ws := wsX7_isInShutZone) B.pre
  have hown : s.vm.findClass RX7 = some m.cls := findClass_of_methodNamed B.named
  have hlocks := B.notSynchronized
  subst hsz
  obtain ⟨hP00, hE0⟩ := id hW0
  obtain ⟨hK, hinj, hU0, hN0, hstr, hnest⟩ := id hE0
  have hP : va_P D vwCl (wld cy a q σ ++ []) s.heap := by rw [List.append_nil]; exact hP00
  have hD : va_D (wF a s.heap.size) (wld cy a q σ ++ []) := wD_of hinj
  have hA : ∀ x : Nat, s.heap.size ≤ x → wF a s.heap.size x := fun _ h => Or.inr h
  have hS : va_S (wF a s.heap.size) s.heap s.heap [] := va_S.rf
  have hk0 : ∀ x : Nat, x < s.heap.size → s.heap[x]? = s.heap[x]? := fun _ _ => rfl
  have hl := lv_entry ([.ref (a 0), .ref (a (3 + i)), .int (zI (hd))]) (n := 5) (Nat.le_of_ble_eq_true rfl)
  rw [lg_entry_eq]
  generalize (lg_sl ([.ref (a 0), .ref (a (3 + i)), .int (zI (hd))]) ++ List.replicate (5 - (lg_sl ([.ref (a 0), .ref (a (3 + i)), .int (zI (hd))])).length) Slot.unset).toArray = ls at hl ⊢
  have hl : lv_has ls 5 [(0, .ref (a 0)), (1, .ref (a (3 + i))), (2, .int (zI (hd)))] := hl
  have k10 := hts (.fieldLink RX7 10 "Slewfree" "weather" "LSlewfree$Weather;") (by decide +kernel)
  have k27 := hts (.fieldLink RX7 27 "Slewfree" "zones" "[LSlewfree$Zone;") (by decide +kernel)
  have k83 := hts (.fieldLink RX7 83 "Slewfree$Crane" "number" "I") (by decide +kernel)
  have k117 := hts (.fieldLink RX7 117 "Slewfree" "zoneCount" "I") (by decide +kernel)
  have k122 := hts (.fieldLink RX7 122 "Slewfree$Zone" "crane" "I") (by decide +kernel)
  have inX0 : ∀ w ∈ u_ws RX0 TX0 12, w ∈ wsX7_isInShutZone := by decide +kernel
  have inX6 : ∀ w ∈ u_ws RX6 TX6 5, w ∈ wsX7_isInShutZone := by decide +kernel
  have inX7 : ∀ w ∈ u_ws RX7 TX7 9, w ∈ wsX7_isInShutZone := by decide +kernel
  obtain ⟨oS, oW, oC, oZ, oM, oL, oP, oQ, oH⟩ := id hO
  unfold okS at oS; unfold okW at oW; unfold okL at oL
  have hrb : 0 ≤ hrF (σ 1) ∧ hrF (σ 1) ≤ 23 := by unfold hrF; omega
  have oC_i := oC i (by omega); unfold okC at oC_i
  refine lv_aload_n hx hb dX7_isInShutZone_0 rfl (lv_at hl 0 rfl) ?_
  refine va_get (D := D) (ci := 9) (v := .ref (a 1)) (C := RX7) (T := TX7) (N := 9) hx hb hts inX7 hown hK hP 0 wg_S rfl 0 (by decide) k10 (fun _ h9 => h9) rfl dX7_isInShutZone_1 ?_
  refine va_calli (va_runV (As := []) (rest := []) ⟨hx, hb, hml, hown, hts⟩ (c_X5_hour l D cy a q σ s.heap.size (by omega)) (cwV 0 hts gX7_isInShutZone_X5_hour rfl rfl rfl (by decide +kernel) ⟨Nat.le_of_ble_eq_true rfl, Nat.le_of_ble_eq_true rfl⟩) ⟨Wd_blind, va_recv hK hP (ci := 7) (q0 := 1) rfl wg_W, fun U hU hW => ⟨rfl, by rw [hU], Wd_mk (wP_left hP) hE0 hS hU hW⟩⟩ rfl rfl hl.1 rfl (lv_room (Nat.le_of_ble_eq_true rfl)) dX7_isInShutZone_4 ⟨(show 0 + 0 ≤ 0 by omega), (show 0 + 0 ≤ 0 by omega)⟩) hS (fun _ _ h => h.elim) (fun _ h => wF_mono hS.1 _ h) (fun rv4 u9 t9 H locs ht hvm hw hB hz hk hS1 => ?_)
  have hP := hP.kept (fun k x hk9 => hk x.1 ((hP k x hk9).lt) (fun h => h))
  have hk0 : ∀ x : Nat, x < s.heap.size → H[x]? = s.heap[x]? := fun x h9 => (hk x (Nat.lt_of_lt_of_le h9 hS.1) (fun h => h)).trans (hk0 x h9)
  have hS := hS1
  obtain rfl := hw
  refine lv_istore_n (lv' := [(3, .int (zI (hrF (σ 1)))), (0, .ref (a 0)), (1, .ref (a (3 + i))), (2, .int (zI (hd)))]) hx hb dX7_isInShutZone_7 rfl hl (by decide) rfl (fun ls hl => ?_)
  refine lv_iconst (v := zI 0) hx hb dX7_isInShutZone_8 rfl ?_
  refine lv_istore (lv' := [(4, .int (zI (0))), (3, .int (zI (hrF (σ 1)))), (0, .ref (a 0)), (1, .ref (a (3 + i))), (2, .int (zI (hd)))]) hx hb dX7_isInShutZone_9 hl (by decide) rfl (fun ls hl => ?_)
  have loop11 : ∀ (n : Nat) (j : Nat) (H : Heap) (locs : List Loc) (ls : Array Slot), 6 - j < n → ((j : Int) ≤ σ 0 6) → (∀ j9 : Nat, j9 < j → ¬ (σ (7 + j9) 0 = σ (3 + i) 0 ∧ shP (σ (7 + j9)) (hrF (σ 1)) ∧ hoP (σ (7 + j9)) hd)) → va_P D vwCl (wld cy a q σ ++ []) H → va_S (wF a s.heap.size) s.heap H locs → (∀ x : Nat, x < s.heap.size → H[x]? = s.heap[x]?) → lv_has ls 5 [(0, .ref (a 0)), (1, .ref (a (3 + i))), (2, .int (zI (hd))), (3, .int (zI (hrF (σ 1)))), (4, .int (zI ((j : Int))))] → W p l e (headSpec wsX7_isInShutZone ({ frames := 10, cells := 0, slots := 0, locals := 400 })).room s m ([.ref (a 0), .ref (a (3 + i)), .int (zI (hd))] : List Value).toArray below meth c H locs (0 + 0) (0 + 0) (MQ below (va_Qi (fun (r : Int32) (_ : Unit) => (r = zI 1 ∧ (zoP σ (σ (3 + i) 0) hd)) ∨ (r = zI 0 ∧ ¬ (zoP σ (σ (3 + i) 0) hd))) (fun _ _ => True) (fun _ => False)) ([.ref (a 0), .ref (a (3 + i)), .int (zI (hd))] : List Value).toArray s 0 0 (wF a s.heap.size)) (F0 m 11 ls []) := by
    intro n
    induction n with
    | zero => intro j H locs ls h0; exact absurd h0 (Nat.not_lt_zero _)
    | succ n ih11 =>
      intro j H locs ls hms hj hn hP hS hk0 hl
      refine lv_iload hx hb dX7_isInShutZone_11 (lv_at hl 4 rfl) ?_
      refine lv_aload_n hx hb dX7_isInShutZone_13 rfl (lv_at hl 0 rfl) ?_
      refine va_get (D := D) (ci := 9) (v := .int (zI (σ 0 6))) (C := RX7) (T := TX7) (N := 9) hx hb hts inX7 hown hK hP 0 wg_S rfl 6 (by decide) k117 (fun _ h9 => h9) rfl dX7_isInShutZone_14 ?_
      refine z_icmp_ge (tgt := 73) hx hb dX7_isInShutZone_17 (by decide) (by omega) (by omega) (fun cd17 => ?_) (fun cd17 => ?_)
      · skip
        refine lv_iconst (v := zI 0) hx hb dX7_isInShutZone_73 rfl ?_
        refine W.widen (k := 0) (n := 0) (by omega) (by omega) ?_
        exact W.zret (v := zI 0) (ty := .boolean) hx hb hr (by decide +kernel) (fun t9 ht hW => ⟨⟨_, (), rfl, Or.inr ⟨rfl, (fun hz => by obtain ⟨j9, g1, g2⟩ := hz; exact hn j9 (by omega) g2)⟩, trivial⟩, vF_R ht hS.1 hk0⟩) hS.2.2 dX7_isInShutZone_74
      · skip
        have oZj := oZ j (by omega); unfold okZ at oZj
        refine lv_aload_n hx hb dX7_isInShutZone_20 rfl (lv_at hl 0 rfl) ?_
        refine va_get (D := D) (ci := 9) (v := .ref (a 6)) (C := RX7) (T := TX7) (N := 9) hx hb hts inX7 hown hK hP 0 wg_S rfl 2 (by decide) k27 (fun _ h9 => h9) rfl dX7_isInShutZone_21 ?_
        refine lv_iload hx hb dX7_isInShutZone_24 (lv_at hl 4 rfl) ?_
        refine z_aald (i := j) hx hb hK hP 6 1 wg_AZ rfl (by omega) (by omega) (by omega) dX7_isInShutZone_26 ?_
        refine va_get (D := D) (ci := 8) (v := .int (zI (σ (7 + j) 0))) (C := RX6) (T := TX6) (N := 5) hx hb hts inX6 hown hK hP (7 + j) (wg_Z (i := j) (by first | assumption | omega)) rfl 0 (by decide) k122 (fun _ h9 => h9) rfl dX7_isInShutZone_27 ?_
        refine lv_aload_n hx hb dX7_isInShutZone_30 rfl (lv_at hl 1 rfl) ?_
        refine va_get (D := D) (ci := 2) (v := .int (zI (σ (3 + i) 0))) (C := RX0) (T := TX0) (N := 12) hx hb hts inX0 hown hK hP (3 + i) (wg_C (i := i) (by first | assumption | omega)) rfl 0 (by decide) k83 (fun _ h9 => h9) rfl dX7_isInShutZone_31 ?_
        refine z_icmp_ne (tgt := 67) hx hb dX7_isInShutZone_34 (by decide) (by omega) (by omega) (fun cd34 => ?_) (fun cd34 => ?_)
        · skip
          refine lv_iinc (v := zI ((j : Int) + 1)) (lv' := [(4, .int (zI ((j : Int) + 1))), (0, .ref (a 0)), (1, .ref (a (3 + i))), (2, .int (zI (hd))), (3, .int (zI (hrF (σ 1))))]) hx hb dX7_isInShutZone_67 hl (k := 4) rfl (zI_add _ _) (by decide) rfl (fun ls hl => ?_)
          refine lv_goto (tgt := 11) hx hb dX7_isInShutZone_70 (by decide) ?_
          exact ih11 (j + 1) H locs ls (by omega) (by omega) (lt_s hn (fun g => by obtain ⟨g1, g2, g3⟩ := g; unfold shP at g2; unfold hoP at g3; omega))  hP hS hk0 (by have h9 := lv_sub hl [1, 2, 3, 4, 0] rfl; exact h9)
        · skip
          refine lv_aload_n hx hb dX7_isInShutZone_37 rfl (lv_at hl 0 rfl) ?_
          refine va_get (D := D) (ci := 9) (v := .ref (a 6)) (C := RX7) (T := TX7) (N := 9) hx hb hts inX7 hown hK hP 0 wg_S rfl 2 (by decide) k27 (fun _ h9 => h9) rfl dX7_isInShutZone_38 ?_
          refine lv_iload hx hb dX7_isInShutZone_41 (lv_at hl 4 rfl) ?_
          refine z_aald (i := j) hx hb hK hP 6 1 wg_AZ rfl (by omega) (by omega) (by omega) dX7_isInShutZone_43 ?_
          refine lv_iload_n hx hb dX7_isInShutZone_44 rfl (lv_at hl 3 rfl) ?_
          refine va_calli (va_runV (As := [.int (zI (hrF (σ 1)))]) (rest := []) ⟨hx, hb, hml, hown, hts⟩ (c_X6_isShutAt l D cy a q σ H.size j (by first | assumption | omega) (hrF (σ 1)) (by omega) (oZ j (by omega))) (cwV 1 hts gX7_isInShutZone_X6_isShutAt rfl rfl rfl (by decide +kernel) ⟨Nat.le_of_ble_eq_true rfl, Nat.le_of_ble_eq_true rfl⟩) ⟨Wd_blind, va_recv hK hP (ci := 8) (q0 := (7 + j)) rfl (wg_Z (i := j) (by first | assumption | omega)), fun U hU hW => ⟨rfl, by rw [hU], Wd_mk (wP_left hP) hE0 hS hU hW⟩⟩ rfl rfl hl.1 rfl (lv_room (Nat.le_of_ble_eq_true rfl)) dX7_isInShutZone_45 ⟨(show 0 + 0 + 0 ≤ 0 by omega), (show 0 + 0 + 0 ≤ 0 by omega)⟩) hS (fun _ _ h => h.elim) (fun _ h => wF_mono hS.1 _ h) (fun rv45 u9 t9 H locs ht hvm hw hB hz hk hS1 => ?_)
          have hP := hP.kept (fun k x hk9 => hk x.1 ((hP k x hk9).lt) (fun h => h))
          have hk0 : ∀ x : Nat, x < s.heap.size → H[x]? = s.heap[x]? := fun x h9 => (hk x (Nat.lt_of_lt_of_le h9 hS.1) (fun h => h)).trans (hk0 x h9)
          have hS := hS1
          rcases hw with ⟨rfl, bd45⟩ | ⟨rfl, bd45⟩
          · skip
            refine z_if_eq (tgt := 67) hx hb dX7_isInShutZone_48 (by decide) (by decide) (fun cd48 => absurd cd48 (by decide)) (fun _ => ?_)
            refine lv_aload_n hx hb dX7_isInShutZone_51 rfl (lv_at hl 0 rfl) ?_
            refine va_get (D := D) (ci := 9) (v := .ref (a 6)) (C := RX7) (T := TX7) (N := 9) hx hb hts inX7 hown hK hP 0 wg_S rfl 2 (by decide) k27 (fun _ h9 => h9) rfl dX7_isInShutZone_52 ?_
            refine lv_iload hx hb dX7_isInShutZone_55 (lv_at hl 4 rfl) ?_
            refine z_aald (i := j) hx hb hK hP 6 1 wg_AZ rfl (by omega) (by omega) (by omega) dX7_isInShutZone_57 ?_
            refine lv_iload_n hx hb dX7_isInShutZone_58 rfl (lv_at hl 2 rfl) ?_
            refine va_calli (va_runV (As := [.int (zI (hd))]) (rest := []) ⟨hx, hb, hml, hown, hts⟩ (c_X6_holds l D cy a q σ H.size j (by first | assumption | omega) (hd) (by omega) (by first | assumption | omega) (oZ j (by omega))) (cwV 1 hts gX7_isInShutZone_X6_holds rfl rfl rfl (by decide +kernel) ⟨Nat.le_of_ble_eq_true rfl, Nat.le_of_ble_eq_true rfl⟩) ⟨Wd_blind, va_recv hK hP (ci := 8) (q0 := (7 + j)) rfl (wg_Z (i := j) (by first | assumption | omega)), fun U hU hW => ⟨rfl, by rw [hU], Wd_mk (wP_left hP) hE0 hS hU hW⟩⟩ rfl rfl hl.1 rfl (lv_room (Nat.le_of_ble_eq_true rfl)) dX7_isInShutZone_59 ⟨(show 0 + 0 + 0 + 0 ≤ 0 by omega), (show 0 + 0 + 0 + 0 ≤ 0 by omega)⟩) hS (fun _ _ h => h.elim) (fun _ h => wF_mono hS.1 _ h) (fun rv59 u9 t9 H locs ht hvm hw hB hz hk hS1 => ?_)
            have hP := hP.kept (fun k x hk9 => hk x.1 ((hP k x hk9).lt) (fun h => h))
            have hk0 : ∀ x : Nat, x < s.heap.size → H[x]? = s.heap[x]? := fun x h9 => (hk x (Nat.lt_of_lt_of_le h9 hS.1) (fun h => h)).trans (hk0 x h9)
            have hS := hS1
            rcases hw with ⟨rfl, bd59⟩ | ⟨rfl, bd59⟩
            · skip
              refine z_if_eq (tgt := 67) hx hb dX7_isInShutZone_62 (by decide) (by decide) (fun cd62 => absurd cd62 (by decide)) (fun _ => ?_)
              refine lv_iconst (v := zI 1) hx hb dX7_isInShutZone_65 rfl ?_
              refine W.widen (k := 0) (n := 0) (by omega) (by omega) ?_
              exact W.zret (v := zI 1) (ty := .boolean) hx hb hr (by decide +kernel) (fun t9 ht hW => ⟨⟨_, (), rfl, Or.inl ⟨rfl, ⟨j, by omega, by omega, by unfold shP; omega, by unfold hoP; omega⟩⟩, trivial⟩, vF_R ht hS.1 hk0⟩) hS.2.2 dX7_isInShutZone_66
            · skip
              refine z_if_eq (tgt := 67) hx hb dX7_isInShutZone_62 (by decide) (by decide) (fun _ => ?_) (fun cd62 => absurd cd62 (by decide))
              refine lv_iinc (v := zI ((j : Int) + 1)) (lv' := [(4, .int (zI ((j : Int) + 1))), (0, .ref (a 0)), (1, .ref (a (3 + i))), (2, .int (zI (hd))), (3, .int (zI (hrF (σ 1))))]) hx hb dX7_isInShutZone_67 hl (k := 4) rfl (zI_add _ _) (by decide) rfl (fun ls hl => ?_)
              refine lv_goto (tgt := 11) hx hb dX7_isInShutZone_70 (by decide) ?_
              exact ih11 (j + 1) H locs ls (by omega) (by omega) (lt_s hn (fun g => by obtain ⟨g1, g2, g3⟩ := g; unfold shP at g2; unfold hoP at g3; omega))  hP hS hk0 (by have h9 := lv_sub hl [1, 2, 3, 4, 0] rfl; exact h9)
          · skip
            refine z_if_eq (tgt := 67) hx hb dX7_isInShutZone_48 (by decide) (by decide) (fun _ => ?_) (fun cd48 => absurd cd48 (by decide))
            refine lv_iinc (v := zI ((j : Int) + 1)) (lv' := [(4, .int (zI ((j : Int) + 1))), (0, .ref (a 0)), (1, .ref (a (3 + i))), (2, .int (zI (hd))), (3, .int (zI (hrF (σ 1))))]) hx hb dX7_isInShutZone_67 hl (k := 4) rfl (zI_add _ _) (by decide) rfl (fun ls hl => ?_)
            refine lv_goto (tgt := 11) hx hb dX7_isInShutZone_70 (by decide) ?_
            exact ih11 (j + 1) H locs ls (by omega) (by omega) (lt_s hn (fun g => by obtain ⟨g1, g2, g3⟩ := g; unfold shP at g2; unfold hoP at g3; omega))  hP hS hk0 (by have h9 := lv_sub hl [1, 2, 3, 4, 0] rfl; exact h9)
  exact loop11 (7) 0 H locs ls (by omega) (by omega) (fun _ h => absurd h (Nat.not_lt_zero _))  hP hS hk0 (lv_sub hl [2, 3, 4, 1, 0] rfl)

set_option maxHeartbeats 4000000 in
set_option maxRecDepth 100000 in
/-- X7_wouldClash -/
theorem c_X7_wouldClash (l : Launch) (D : va_G) (cy : Nat → ClassId) (a q : Nat → Nat) (σ : Nat → Nat → Int) (sz : Nat) (i : Nat) (hi : i < 3) (hd : Int) (hhd : rg hd) (t0 : Int) (wi : Int) (hO : okA t0 wi q σ) : Met l yX7_wouldClash wsX7_wouldClash ({ frames := 8, cells := 0, slots := 0, locals := 200 }) (va_Pc [.ref (a 0), .ref (a (3 + i)), .int (zI (hd))] (fun U => U.heap.size = sz ∧ Wd D cy a q σ U)) (va_Qi (fun (r : Int32) (_ : Unit) => (r = zI 1 ∧ (clP σ (σ (3 + i) 0) hd)) ∨ (r = zI 0 ∧ ¬ (clP σ (σ (3 + i) 0) hd))) (fun _ _ => True) (fun _ => False)) 0 0 (wF a sz) := by
  refine Met.ofW (cc := cX7_wouldClash) (maxL := 5) (ret := (some .boolean)) (by decide) rfl ?_
  intro p e s m args below meth c s₁ B hml hpc0
  obtain ⟨rfl, hsz, hW0⟩ := hpc0
  have hx := B.exec
  have hb := B.bytes
  have hr := B.returns
  have hts := atoms_spec (ws := wsX7_wouldClash) B.pre
  have hown : s.vm.findClass RX7 = some m.cls := findClass_of_methodNamed B.named
  have hlocks := B.notSynchronized
  subst hsz
  obtain ⟨hP00, hE0⟩ := id hW0
  obtain ⟨hK, hinj, hU0, hN0, hstr, hnest⟩ := id hE0
  have hP : va_P D vwCl (wld cy a q σ ++ []) s.heap := by rw [List.append_nil]; exact hP00
  have hD : va_D (wF a s.heap.size) (wld cy a q σ ++ []) := wD_of hinj
  have hA : ∀ x : Nat, s.heap.size ≤ x → wF a s.heap.size x := fun _ h => Or.inr h
  have hS : va_S (wF a s.heap.size) s.heap s.heap [] := va_S.rf
  have hk0 : ∀ x : Nat, x < s.heap.size → s.heap[x]? = s.heap[x]? := fun _ _ => rfl
  have hl := lv_entry ([.ref (a 0), .ref (a (3 + i)), .int (zI (hd))]) (n := 5) (Nat.le_of_ble_eq_true rfl)
  rw [lg_entry_eq]
  generalize (lg_sl ([.ref (a 0), .ref (a (3 + i)), .int (zI (hd))]) ++ List.replicate (5 - (lg_sl ([.ref (a 0), .ref (a (3 + i)), .int (zI (hd))])).length) Slot.unset).toArray = ls at hl ⊢
  have hl : lv_has ls 5 [(0, .ref (a 0)), (1, .ref (a (3 + i))), (2, .int (zI (hd)))] := hl
  have k18 := hts (.fieldLink RX7 18 "Slewfree" "cranes" "[LSlewfree$Crane;") (by decide +kernel)
  have k34 := hts (.fieldLink RX7 34 "Slewfree" "meetings" "[LSlewfree$Meeting;") (by decide +kernel)
  have k57 := hts (.fieldLink RX7 57 "Slewfree" "craneCount" "I") (by decide +kernel)
  have k83 := hts (.fieldLink RX7 83 "Slewfree$Crane" "number" "I") (by decide +kernel)
  have k139 := hts (.fieldLink RX7 139 "Slewfree" "meetingCount" "I") (by decide +kernel)
  have k207 := hts (.fieldLink RX7 207 "Slewfree$Crane" "angle" "I") (by decide +kernel)
  have inX0 : ∀ w ∈ u_ws RX0 TX0 12, w ∈ wsX7_wouldClash := by decide +kernel
  have inX7 : ∀ w ∈ u_ws RX7 TX7 9, w ∈ wsX7_wouldClash := by decide +kernel
  obtain ⟨oS, oW, oC, oZ, oM, oL, oP, oQ, oH⟩ := id hO
  unfold okS at oS; unfold okW at oW; unfold okL at oL
  have oC_i := oC i (by omega); unfold okC at oC_i
  refine lv_iconst (v := zI 0) hx hb dX7_wouldClash_0 rfl ?_
  refine lv_istore_n (lv' := [(3, .int (zI (0))), (0, .ref (a 0)), (1, .ref (a (3 + i))), (2, .int (zI (hd)))]) hx hb dX7_wouldClash_1 rfl hl (by decide) rfl (fun ls hl => ?_)
  have loop2 : ∀ (n : Nat) (j : Nat) (H : Heap) (locs : List Loc) (ls : Array Slot), 6 - j < n → ((j : Int) ≤ σ 0 7) → (∀ j9 : Nat, j9 < j → ∀ k9 : Nat, (k9 : Int) < σ 0 5 → ¬ meP (σ (14 + j9)) (σ (3 + i) 0) hd k9 (σ (3 + k9) 3)) → va_P D vwCl (wld cy a q σ ++ []) H → va_S (wF a s.heap.size) s.heap H locs → (∀ x : Nat, x < s.heap.size → H[x]? = s.heap[x]?) → lv_has ls 5 [(0, .ref (a 0)), (1, .ref (a (3 + i))), (2, .int (zI (hd))), (3, .int (zI ((j : Int))))] → W p l e (headSpec wsX7_wouldClash ({ frames := 8, cells := 0, slots := 0, locals := 200 })).room s m ([.ref (a 0), .ref (a (3 + i)), .int (zI (hd))] : List Value).toArray below meth c H locs (0) (0) (MQ below (va_Qi (fun (r : Int32) (_ : Unit) => (r = zI 1 ∧ (clP σ (σ (3 + i) 0) hd)) ∨ (r = zI 0 ∧ ¬ (clP σ (σ (3 + i) 0) hd))) (fun _ _ => True) (fun _ => False)) ([.ref (a 0), .ref (a (3 + i)), .int (zI (hd))] : List Value).toArray s 0 0 (wF a s.heap.size)) (F0 m 2 ls []) := by
    intro n
    induction n with
    | zero => intro j H locs ls h0; exact absurd h0 (Nat.not_lt_zero _)
    | succ n ih2 =>
      intro j H locs ls hms hj hn hP hS hk0 hl
      refine lv_iload_n hx hb dX7_wouldClash_2 rfl (lv_at hl 3 rfl) ?_
      refine lv_aload_n hx hb dX7_wouldClash_3 rfl (lv_at hl 0 rfl) ?_
      refine va_get (D := D) (ci := 9) (v := .int (zI (σ 0 7))) (C := RX7) (T := TX7) (N := 9) hx hb hts inX7 hown hK hP 0 wg_S rfl 7 (by decide) k139 (fun _ h9 => h9) rfl dX7_wouldClash_4 ?_
      refine z_icmp_ge (tgt := 65) hx hb dX7_wouldClash_7 (by decide) (by omega) (by omega) (fun cd7 => ?_) (fun cd7 => ?_)
      · skip
        refine lv_iconst (v := zI 0) hx hb dX7_wouldClash_65 rfl ?_
        exact W.zret (v := zI 0) (ty := .boolean) hx hb hr (by decide +kernel) (fun t9 ht hW => ⟨⟨_, (), rfl, Or.inr ⟨rfl, (fun hz => by obtain ⟨j9, k9, g1, g2, g3⟩ := hz; exact hn j9 (by omega) k9 g2 g3)⟩, trivial⟩, vF_R ht hS.1 hk0⟩) hS.2.2 dX7_wouldClash_66
      · skip
        refine lv_iconst (v := zI 0) hx hb dX7_wouldClash_10 rfl ?_
        refine lv_istore (lv' := [(4, .int (zI (0))), (0, .ref (a 0)), (1, .ref (a (3 + i))), (2, .int (zI (hd))), (3, .int (zI ((j : Int))))]) hx hb dX7_wouldClash_11 hl (by decide) rfl (fun ls hl => ?_)
        have loop13 : ∀ (n : Nat) (k : Nat) (H : Heap) (locs : List Loc) (ls : Array Slot), 3 - k < n → ((k : Int) ≤ σ 0 5) → (∀ k9 : Nat, k9 < k → ¬ meP (σ (14 + j)) (σ (3 + i) 0) hd k9 (σ (3 + k9) 3)) → va_P D vwCl (wld cy a q σ ++ []) H → va_S (wF a s.heap.size) s.heap H locs → (∀ x : Nat, x < s.heap.size → H[x]? = s.heap[x]?) → lv_has ls 5 [(0, .ref (a 0)), (1, .ref (a (3 + i))), (2, .int (zI (hd))), (3, .int (zI ((j : Int)))), (4, .int (zI ((k : Int))))] → W p l e (headSpec wsX7_wouldClash ({ frames := 8, cells := 0, slots := 0, locals := 200 })).room s m ([.ref (a 0), .ref (a (3 + i)), .int (zI (hd))] : List Value).toArray below meth c H locs (0) (0) (MQ below (va_Qi (fun (r : Int32) (_ : Unit) => (r = zI 1 ∧ (clP σ (σ (3 + i) 0) hd)) ∨ (r = zI 0 ∧ ¬ (clP σ (σ (3 + i) 0) hd))) (fun _ _ => True) (fun _ => False)) ([.ref (a 0), .ref (a (3 + i)), .int (zI (hd))] : List Value).toArray s 0 0 (wF a s.heap.size)) (F0 m 13 ls []) := by
          intro n
          induction n with
          | zero => intro k H locs ls h0; exact absurd h0 (Nat.not_lt_zero _)
          | succ n ih13 =>
            intro k H locs ls hms hk hm hP hS hk0 hl
            refine lv_iload hx hb dX7_wouldClash_13 (lv_at hl 4 rfl) ?_
            refine lv_aload_n hx hb dX7_wouldClash_15 rfl (lv_at hl 0 rfl) ?_
            refine va_get (D := D) (ci := 9) (v := .int (zI (σ 0 5))) (C := RX7) (T := TX7) (N := 9) hx hb hts inX7 hown hK hP 0 wg_S rfl 5 (by decide) k57 (fun _ h9 => h9) rfl dX7_wouldClash_16 ?_
            refine z_icmp_ge (tgt := 59) hx hb dX7_wouldClash_19 (by decide) (by omega) (by omega) (fun cd19 => ?_) (fun cd19 => ?_)
            · skip
              refine lv_iinc (v := zI ((j : Int) + 1)) (lv' := [(3, .int (zI ((j : Int) + 1))), (0, .ref (a 0)), (1, .ref (a (3 + i))), (2, .int (zI (hd))), (4, .int (zI ((k : Int))))]) hx hb dX7_wouldClash_59 hl (k := 3) rfl (zI_add _ _) (by decide) rfl (fun ls hl => ?_)
              refine lv_goto (tgt := 2) hx hb dX7_wouldClash_62 (by decide) ?_
              exact ih2 (j + 1) H locs ls (by omega) (by omega) (lt_s hn (fun k9 h9 => hm k9 (by omega)))  hP hS hk0 (by have h9 := lv_sub hl [1, 2, 3, 0] rfl; exact h9)
            · skip
              have oMj := oM j (by omega); unfold okM at oMj
              have oCk := oC k (by omega); unfold okC at oCk
              refine lv_aload_n hx hb dX7_wouldClash_22 rfl (lv_at hl 0 rfl) ?_
              refine va_get (D := D) (ci := 9) (v := .ref (a 13)) (C := RX7) (T := TX7) (N := 9) hx hb hts inX7 hown hK hP 0 wg_S rfl 3 (by decide) k34 (fun _ h9 => h9) rfl dX7_wouldClash_23 ?_
              refine lv_iload_n hx hb dX7_wouldClash_26 rfl (lv_at hl 3 rfl) ?_
              refine z_aald (i := j) hx hb hK hP 13 2 wg_AM rfl (by omega) (by omega) (by omega) dX7_wouldClash_27 ?_
              refine lv_aload_n hx hb dX7_wouldClash_28 rfl (lv_at hl 1 rfl) ?_
              refine va_get (D := D) (ci := 2) (v := .int (zI (σ (3 + i) 0))) (C := RX0) (T := TX0) (N := 12) hx hb hts inX0 hown hK hP (3 + i) (wg_C (i := i) (by first | assumption | omega)) rfl 0 (by decide) k83 (fun _ h9 => h9) rfl dX7_wouldClash_29 ?_
              refine lv_iload_n hx hb dX7_wouldClash_32 rfl (lv_at hl 2 rfl) ?_
              refine lv_iload hx hb dX7_wouldClash_33 (lv_at hl 4 rfl) ?_
              refine lv_aload_n hx hb dX7_wouldClash_35 rfl (lv_at hl 0 rfl) ?_
              refine va_get (D := D) (ci := 9) (v := .ref (a 2)) (C := RX7) (T := TX7) (N := 9) hx hb hts inX7 hown hK hP 0 wg_S rfl 1 (by decide) k18 (fun _ h9 => h9) rfl dX7_wouldClash_36 ?_
              refine lv_iload hx hb dX7_wouldClash_39 (lv_at hl 4 rfl) ?_
              refine z_aald (i := k) hx hb hK hP 2 0 wg_AC rfl (by omega) (by omega) (by omega) dX7_wouldClash_41 ?_
              refine va_get (D := D) (ci := 2) (v := .int (zI (σ (3 + k) 3))) (C := RX0) (T := TX0) (N := 12) hx hb hts inX0 hown hK hP (3 + k) (wg_C (i := k) (by first | assumption | omega)) rfl 3 (by decide) k207 (fun _ h9 => h9) rfl dX7_wouldClash_42 ?_
              refine va_calli (va_runV (As := [.int (zI (σ (3 + i) 0)), .int (zI (hd)), .int (zI ((k : Int))), .int (zI (σ (3 + k) 3))]) (rest := []) ⟨hx, hb, hml, hown, hts⟩ (c_X2_isMetBy l D cy a q σ H.size j (by first | assumption | omega) (σ (3 + i) 0) (by omega) (hd) (by omega) ((k : Int)) (by omega) (σ (3 + k) 3) (by omega) (oM j (by omega))) (cwV 4 hts gX7_wouldClash_X2_isMetBy rfl rfl rfl (by decide +kernel) ⟨Nat.le_of_ble_eq_true rfl, Nat.le_of_ble_eq_true rfl⟩) ⟨Wd_blind, va_recv hK hP (ci := 4) (q0 := (14 + j)) rfl (wg_M (i := j) (by first | assumption | omega)), fun U hU hW => ⟨rfl, by rw [hU], Wd_mk (wP_left hP) hE0 hS hU hW⟩⟩ rfl rfl hl.1 rfl (lv_room (Nat.le_of_ble_eq_true rfl)) dX7_wouldClash_45 ⟨(show 0 + 0 ≤ 0 by omega), (show 0 + 0 ≤ 0 by omega)⟩) hS (fun _ _ h => h.elim) (fun _ h => wF_mono hS.1 _ h) (fun rv45 u9 t9 H locs ht hvm hw hB hz hk hS1 => ?_)
              have hP := hP.kept (fun k x hk9 => hk x.1 ((hP k x hk9).lt) (fun h => h))
              have hk0 : ∀ x : Nat, x < s.heap.size → H[x]? = s.heap[x]? := fun x h9 => (hk x (Nat.lt_of_lt_of_le h9 hS.1) (fun h => h)).trans (hk0 x h9)
              have hS := hS1
              rcases hw with ⟨rfl, bd45⟩ | ⟨rfl, bd45⟩
              · skip
                refine z_if_eq (tgt := 53) hx hb dX7_wouldClash_48 (by decide) (by decide) (fun cd48 => absurd cd48 (by decide)) (fun _ => ?_)
                refine lv_iconst (v := zI 1) hx hb dX7_wouldClash_51 rfl ?_
                refine W.widen (k := 0) (n := 0) (by omega) (by omega) ?_
                exact W.zret (v := zI 1) (ty := .boolean) hx hb hr (by decide +kernel) (fun t9 ht hW => ⟨⟨_, (), rfl, Or.inl ⟨rfl, ⟨j, k, by omega, by omega, by unfold meP; omega⟩⟩, trivial⟩, vF_R ht hS.1 hk0⟩) hS.2.2 dX7_wouldClash_52
              · skip
                refine z_if_eq (tgt := 53) hx hb dX7_wouldClash_48 (by decide) (by decide) (fun _ => ?_) (fun cd48 => absurd cd48 (by decide))
                refine lv_iinc (v := zI ((k : Int) + 1)) (lv' := [(4, .int (zI ((k : Int) + 1))), (0, .ref (a 0)), (1, .ref (a (3 + i))), (2, .int (zI (hd))), (3, .int (zI ((j : Int))))]) hx hb dX7_wouldClash_53 hl (k := 4) rfl (zI_add _ _) (by decide) rfl (fun ls hl => ?_)
                refine lv_goto (tgt := 13) hx hb dX7_wouldClash_56 (by decide) ?_
                exact ih13 (k + 1) H locs ls (by omega) (by omega) (lt_s hm (fun g => by unfold meP at g; omega))  hP hS hk0 (by have h9 := lv_sub hl [1, 2, 3, 4, 0] rfl; exact h9)
        exact loop13 (4) 0 H locs ls (by omega) (by omega) (fun _ h => absurd h (Nat.not_lt_zero _))  hP hS hk0 (lv_sub hl [1, 2, 3, 4, 0] rfl)
  exact loop2 (7) 0 s.heap [] ls (by omega) (by omega) (fun _ h => absurd h (Nat.not_lt_zero _))  hP hS hk0 (lv_sub hl [1, 2, 3, 0] rfl)

set_option maxHeartbeats 4000000 in
set_option maxRecDepth 100000 in
/-- X7_verdictAt -/
theorem c_X7_verdictAt (l : Launch) (D : va_G) (cy : Nat → ClassId) (a q : Nat → Nat) (σ : Nat → Nat → Int) (sz : Nat) (i : Nat) (hi : i < 3) (load : Int) (hload : rg load) (cap : Int) (hcap : rg cap) (hd : Int) (hhd : rg hd) (hd9 : 0 ≤ hd ∧ hd ≤ 24) (t0 : Int) (wi : Int) (hO : okA t0 wi q σ) : Met l yX7_verdictAt wsX7_verdictAt ({ frames := 11, cells := 0, slots := 0, locals := 500 }) (va_Pc [.ref (a 0), .ref (a (3 + i)), .int (zI (load)), .int (zI (cap)), .int (zI (hd))] (fun U => U.heap.size = sz ∧ Wd D cy a q σ U)) (va_Qi (fun (r : Int32) (_ : Unit) => r = zI (vdF σ load cap (σ (3 + i) 0) hd)) (fun _ _ => True) (fun _ => False)) 0 0 (wF a sz) := by
  refine Met.ofW (cc := cX7_verdictAt) (maxL := 5) (ret := (some .int)) (by decide) rfl ?_
  intro p e s m args below meth c s₁ B hml hpc0
  obtain ⟨rfl, hsz, hW0⟩ := hpc0
  have hx := B.exec
  have hb := B.bytes
  have hr := B.returns
  have hts := atoms_spec (ws := wsX7_verdictAt) B.pre
  have hown : s.vm.findClass RX7 = some m.cls := findClass_of_methodNamed B.named
  have hlocks := B.notSynchronized
  subst hsz
  obtain ⟨hP00, hE0⟩ := id hW0
  obtain ⟨hK, hinj, hU0, hN0, hstr, hnest⟩ := id hE0
  have hP : va_P D vwCl (wld cy a q σ ++ []) s.heap := by rw [List.append_nil]; exact hP00
  have hD : va_D (wF a s.heap.size) (wld cy a q σ ++ []) := wD_of hinj
  have hA : ∀ x : Nat, s.heap.size ≤ x → wF a s.heap.size x := fun _ h => Or.inr h
  have hS : va_S (wF a s.heap.size) s.heap s.heap [] := va_S.rf
  have hk0 : ∀ x : Nat, x < s.heap.size → s.heap[x]? = s.heap[x]? := fun _ _ => rfl
  have hl := lv_entry ([.ref (a 0), .ref (a (3 + i)), .int (zI (load)), .int (zI (cap)), .int (zI (hd))]) (n := 5) (Nat.le_of_ble_eq_true rfl)
  rw [lg_entry_eq]
  generalize (lg_sl ([.ref (a 0), .ref (a (3 + i)), .int (zI (load)), .int (zI (cap)), .int (zI (hd))]) ++ List.replicate (5 - (lg_sl ([.ref (a 0), .ref (a (3 + i)), .int (zI (load)), .int (zI (cap)), .int (zI (hd))])).length) Slot.unset).toArray = ls at hl ⊢
  have hl : lv_has ls 5 [(0, .ref (a 0)), (1, .ref (a (3 + i))), (2, .int (zI (load))), (3, .int (zI (cap))), (4, .int (zI (hd)))] := hl
  refine lv_iload_n hx hb dX7_verdictAt_0 rfl (lv_at hl 2 rfl) ?_
  refine lv_iload_n hx hb dX7_verdictAt_1 rfl (lv_at hl 3 rfl) ?_
  refine z_icmp_le (tgt := 7) hx hb dX7_verdictAt_2 (by decide) (by omega) (by omega) (fun cd2 => ?_) (fun cd2 => ?_)
  · skip
    refine lv_aload_n hx hb dX7_verdictAt_7 rfl (lv_at hl 0 rfl) ?_
    refine lv_aload_n hx hb dX7_verdictAt_8 rfl (lv_at hl 1 rfl) ?_
    refine lv_iload hx hb dX7_verdictAt_9 (lv_at hl 4 rfl) ?_
    refine va_calli (va_runV (As := [.ref (a (3 + i)), .int (zI (hd))]) (rest := []) ⟨hx, hb, hml, hown, hts⟩ (c_X7_isInShutZone l D cy a q σ s.heap.size i (by first | assumption | omega) (hd) (by omega) (by first | assumption | omega) _ _ hO) (cwV 2 hts gX7_verdictAt_X7_isInShutZone rfl rfl rfl (by decide +kernel) ⟨Nat.le_of_ble_eq_true rfl, Nat.le_of_ble_eq_true rfl⟩) ⟨Wd_blind, va_recv hK hP (ci := 9) (q0 := 0) rfl wg_S, fun U hU hW => ⟨rfl, by rw [hU], Wd_mk (wP_left hP) hE0 hS hU hW⟩⟩ rfl rfl hl.1 rfl (lv_room (Nat.le_of_ble_eq_true rfl)) dX7_verdictAt_11 ⟨(show 0 + 0 ≤ 0 by omega), (show 0 + 0 ≤ 0 by omega)⟩) hS (fun _ _ h => h.elim) (fun _ h => wF_mono hS.1 _ h) (fun rv11 u9 t9 H locs ht hvm hw hB hz hk hS1 => ?_)
    have hP := hP.kept (fun k x hk9 => hk x.1 ((hP k x hk9).lt) (fun h => h))
    have hk0 : ∀ x : Nat, x < s.heap.size → H[x]? = s.heap[x]? := fun x h9 => (hk x (Nat.lt_of_lt_of_le h9 hS.1) (fun h => h)).trans (hk0 x h9)
    have hS := hS1
    rcases hw with ⟨rfl, bd11⟩ | ⟨rfl, bd11⟩
    · skip
      refine z_if_eq (tgt := 19) hx hb dX7_verdictAt_14 (by decide) (by decide) (fun cd14 => absurd cd14 (by decide)) (fun _ => ?_)
      refine lv_iconst (v := zI 4) hx hb dX7_verdictAt_17 rfl ?_
      refine W.widen (k := 0) (n := 0) (by omega) (by omega) ?_
      exact W.iret (v := zI (4)) hx hb hr (fun t9 ht hW => ⟨⟨_, (), rfl, (by unfold vdF; rw [if_neg (by omega), if_pos (by assumption)]), trivial⟩, vF_R ht hS.1 hk0⟩) hS.2.2 dX7_verdictAt_18
    · skip
      refine z_if_eq (tgt := 19) hx hb dX7_verdictAt_14 (by decide) (by decide) (fun _ => ?_) (fun cd14 => absurd cd14 (by decide))
      refine lv_aload_n hx hb dX7_verdictAt_19 rfl (lv_at hl 0 rfl) ?_
      refine lv_aload_n hx hb dX7_verdictAt_20 rfl (lv_at hl 1 rfl) ?_
      refine lv_iload hx hb dX7_verdictAt_21 (lv_at hl 4 rfl) ?_
      refine va_calli (va_runV (As := [.ref (a (3 + i)), .int (zI (hd))]) (rest := []) ⟨hx, hb, hml, hown, hts⟩ (c_X7_wouldClash l D cy a q σ H.size i (by first | assumption | omega) (hd) (by omega) _ _ hO) (cwV 2 hts gX7_verdictAt_X7_wouldClash rfl rfl rfl (by decide +kernel) ⟨Nat.le_of_ble_eq_true rfl, Nat.le_of_ble_eq_true rfl⟩) ⟨Wd_blind, va_recv hK hP (ci := 9) (q0 := 0) rfl wg_S, fun U hU hW => ⟨rfl, by rw [hU], Wd_mk (wP_left hP) hE0 hS hU hW⟩⟩ rfl rfl hl.1 rfl (lv_room (Nat.le_of_ble_eq_true rfl)) dX7_verdictAt_23 ⟨(show 0 + 0 + 0 ≤ 0 by omega), (show 0 + 0 + 0 ≤ 0 by omega)⟩) hS (fun _ _ h => h.elim) (fun _ h => wF_mono hS.1 _ h) (fun rv23 u9 t9 H locs ht hvm hw hB hz hk hS1 => ?_)
      have hP := hP.kept (fun k x hk9 => hk x.1 ((hP k x hk9).lt) (fun h => h))
      have hk0 : ∀ x : Nat, x < s.heap.size → H[x]? = s.heap[x]? := fun x h9 => (hk x (Nat.lt_of_lt_of_le h9 hS.1) (fun h => h)).trans (hk0 x h9)
      have hS := hS1
      rcases hw with ⟨rfl, bd23⟩ | ⟨rfl, bd23⟩
      · skip
        refine z_if_eq (tgt := 33) hx hb dX7_verdictAt_26 (by decide) (by decide) (fun cd26 => absurd cd26 (by decide)) (fun _ => ?_)
        refine lv_iconst (v := zI 5) hx hb dX7_verdictAt_29 rfl ?_
        refine lv_goto (tgt := 34) hx hb dX7_verdictAt_30 (by decide) ?_
        refine W.widen (k := 0) (n := 0) (by omega) (by omega) ?_
        exact W.iret (v := zI (5)) hx hb hr (fun t9 ht hW => ⟨⟨_, (), rfl, (by unfold vdF; rw [if_neg (by omega), if_neg (by assumption), if_pos (by assumption)]), trivial⟩, vF_R ht hS.1 hk0⟩) hS.2.2 dX7_verdictAt_34
      · skip
        refine z_if_eq (tgt := 33) hx hb dX7_verdictAt_26 (by decide) (by decide) (fun _ => ?_) (fun cd26 => absurd cd26 (by decide))
        refine lv_iconst (v := zI 0) hx hb dX7_verdictAt_33 rfl ?_
        refine W.widen (k := 0) (n := 0) (by omega) (by omega) ?_
        exact W.iret (v := zI (0)) hx hb hr (fun t9 ht hW => ⟨⟨_, (), rfl, (by unfold vdF; rw [if_neg (by omega), if_neg (by assumption), if_neg (by assumption)]), trivial⟩, vF_R ht hS.1 hk0⟩) hS.2.2 dX7_verdictAt_34
  · skip
    refine lv_iconst (v := zI 3) hx hb dX7_verdictAt_5 rfl ?_
    exact W.iret (v := zI (3)) hx hb hr (fun t9 ht hW => ⟨⟨_, (), rfl, (by unfold vdF; rw [if_pos (by omega)]), trivial⟩, vF_R ht hS.1 hk0⟩) hS.2.2 dX7_verdictAt_6

set_option maxHeartbeats 4000000 in
set_option maxRecDepth 100000 in
/-- X1_fault -/
theorem c_X1_fault (l : Launch) (D : va_G) (cy : Nat → ClassId) (a q : Nat → Nat) (σ : Nat → Nat → Int) (sz : Nat) (t0 : Int) (wi : Int) (hO : okA t0 wi q σ) : Met l yX1_fault wsX1_fault ({ frames := 8, cells := 0, slots := 0, locals := 200 }) (va_Pc [.ref (a 20)] (fun U => U.heap.size = sz ∧ Wd D cy a q σ U)) (va_Qi (fun (r : Int32) (_ : Unit) => r = zI (faF q σ)) (fun _ _ => True) (fun _ => False)) 0 0 (wF a sz) := by
  refine Met.ofW (cc := cX1_fault) (maxL := 3) (ret := (some .int)) (by decide) rfl ?_
  intro p e s m args below meth c s₁ B hml hpc0
  obtain ⟨rfl, hsz, hW0⟩ := hpc0
  have hx := B.exec
  have hb := B.bytes
  have hr := B.returns
  have hts := atoms_spec (ws := wsX1_fault) B.pre
  have hown : s.vm.findClass RX1 = some m.cls := findClass_of_methodNamed B.named
  have hlocks := B.notSynchronized
  subst hsz
  obtain ⟨hP00, hE0⟩ := id hW0
  obtain ⟨hK, hinj, hU0, hN0, hstr, hnest⟩ := id hE0
  have hP : va_P D vwCl (wld cy a q σ ++ []) s.heap := by rw [List.append_nil]; exact hP00
  have hD : va_D (wF a s.heap.size) (wld cy a q σ ++ []) := wD_of hinj
  have hA : ∀ x : Nat, s.heap.size ≤ x → wF a s.heap.size x := fun _ h => Or.inr h
  have hS : va_S (wF a s.heap.size) s.heap s.heap [] := va_S.rf
  have hk0 : ∀ x : Nat, x < s.heap.size → s.heap[x]? = s.heap[x]? := fun _ _ => rfl
  have hl := lv_entry ([.ref (a 20)]) (n := 3) (Nat.le_of_ble_eq_true rfl)
  rw [lg_entry_eq]
  generalize (lg_sl ([.ref (a 20)]) ++ List.replicate (3 - (lg_sl ([.ref (a 20)])).length) Slot.unset).toArray = ls at hl ⊢
  have hl : lv_has ls 3 [(0, .ref (a 20))] := hl
  have k17 := hts (.fieldLink RX1 17 "Slewfree$Log" "pages" "[LSlewfree$Page;") (by decide +kernel)
  have k22 := hts (.fieldLink RX1 22 "Slewfree$Log" "count" "I") (by decide +kernel)
  have k47 := hts (.fieldLink RX1 47 "Slewfree$Page" "seal" "I") (by decide +kernel)
  have inX1 : ∀ w ∈ u_ws RX1 TX1 4, w ∈ wsX1_fault := by decide +kernel
  have inX3 : ∀ w ∈ u_ws RX3 TX3 7, w ∈ wsX1_fault := by decide +kernel
  obtain ⟨oS, oW, oC, oZ, oM, oL, oP, oQ, oH⟩ := id hO
  unfold okS at oS; unfold okW at oW; unfold okL at oL
  refine lv_iconst (v := zI 1) hx hb dX1_fault_0 rfl ?_
  refine lv_istore_n (lv' := [(1, .int (zI (1))), (0, .ref (a 20))]) hx hb dX1_fault_1 rfl hl (by decide) rfl (fun ls hl => ?_)
  refine lv_iconst (v := zI 0) hx hb dX1_fault_2 rfl ?_
  refine lv_istore_n (lv' := [(2, .int (zI (0))), (1, .int (zI (1))), (0, .ref (a 20))]) hx hb dX1_fault_3 rfl hl (by decide) rfl (fun ls hl => ?_)
  have loop4 : ∀ (n : Nat) (i : Nat) (ah : Int) (H : Heap) (locs : List Loc) (ls : Array Slot), 40 - i < n → ((i : Int) ≤ σ 20 1) → (ah = lastS q σ i) → (0 ≤ ah ∧ ah ≤ 9972) → (faR q σ ((σ 20 1).toNat - i) i = faF q σ) → va_P D vwCl (wld cy a q σ ++ []) H → va_S (wF a s.heap.size) s.heap H locs → (∀ x : Nat, x < s.heap.size → H[x]? = s.heap[x]?) → lv_has ls 3 [(0, .ref (a 20)), (1, .int (zI (ah))), (2, .int (zI ((i : Int))))] → W p l e (headSpec wsX1_fault ({ frames := 8, cells := 0, slots := 0, locals := 200 })).room s m ([.ref (a 20)] : List Value).toArray below meth c H locs (0) (0) (MQ below (va_Qi (fun (r : Int32) (_ : Unit) => r = zI (faF q σ)) (fun _ _ => True) (fun _ => False)) ([.ref (a 20)] : List Value).toArray s 0 0 (wF a s.heap.size)) (F0 m 4 ls []) := by
    intro n
    induction n with
    | zero => intro i ah H locs ls h0; exact absurd h0 (Nat.not_lt_zero _)
    | succ n ih4 =>
      intro i ah H locs ls hms hi ha hab hf hP hS hk0 hl
      refine lv_iload_n hx hb dX1_fault_4 rfl (lv_at hl 2 rfl) ?_
      refine lv_aload_n hx hb dX1_fault_5 rfl (lv_at hl 0 rfl) ?_
      refine va_get (D := D) (ci := 3) (v := .int (zI (σ 20 1))) (C := RX1) (T := TX1) (N := 4) hx hb hts inX1 hown hK hP 20 wg_L rfl 1 (by decide) k22 (fun _ h9 => h9) rfl dX1_fault_6 ?_
      refine z_icmp_ge (tgt := 52) hx hb dX1_fault_9 (by decide) (by omega) (by omega) (fun cd9 => ?_) (fun cd9 => ?_)
      · skip
        refine lv_iconst (v := zI (-1)) hx hb dX1_fault_52 rfl ?_
        exact W.iret (v := zI (-1)) hx hb hr (fun t9 ht hW => ⟨⟨_, (), rfl, (by congr 1; rw [← hf, show (σ 20 1).toNat - i = 0 by omega]; rfl), trivial⟩, vF_R ht hS.1 hk0⟩) hS.2.2 dX1_fault_53
      · skip
        have oPi := oP (q i) (oQ.1 i (by omega)); unfold okP at oPi
        have hqi := oQ.1 i (by omega)
        refine lv_aload_n hx hb dX1_fault_12 rfl (lv_at hl 0 rfl) ?_
        refine va_get (D := D) (ci := 3) (v := .ref (a 21)) (C := RX1) (T := TX1) (N := 4) hx hb hts inX1 hown hK hP 20 wg_L rfl 0 (by decide) k17 (fun _ h9 => h9) rfl dX1_fault_13 ?_
        refine lv_iload_n hx hb dX1_fault_16 rfl (lv_at hl 2 rfl) ?_
        refine z_aald (i := i) hx hb hK hP 21 3 wg_AP rfl (by omega) (by omega) (by omega) dX1_fault_17 ?_
        refine va_get (D := D) (ci := 5) (v := .int (zI (σ (22 + q i) 5))) (C := RX3) (T := TX3) (N := 7) hx hb hts inX3 hown hK hP (22 + q i) (wg_P (i := q i) (by first | assumption | omega)) rfl 5 (by decide) k47 (fun _ h9 => h9) rfl dX1_fault_18 ?_
        refine lv_aload_n hx hb dX1_fault_21 rfl (lv_at hl 0 rfl) ?_
        refine va_get (D := D) (ci := 3) (v := .ref (a 21)) (C := RX1) (T := TX1) (N := 4) hx hb hts inX1 hown hK hP 20 wg_L rfl 0 (by decide) k17 (fun _ h9 => h9) rfl dX1_fault_22 ?_
        refine lv_iload_n hx hb dX1_fault_25 rfl (lv_at hl 2 rfl) ?_
        refine z_aald (i := i) hx hb hK hP 21 3 wg_AP rfl (by omega) (by omega) (by omega) dX1_fault_26 ?_
        refine lv_iload_n hx hb dX1_fault_27 rfl (lv_at hl 1 rfl) ?_
        refine va_calli (va_runV (As := [.int (zI (ah))]) (rest := [.int (zI (σ (22 + q i) 5))]) ⟨hx, hb, hml, hown, hts⟩ (c_X3_sealBehind l D cy a q σ H.size (q i) (by omega) (ah) (by omega) (by omega) (by omega)) (cwV 1 hts gX1_fault_X3_sealBehind rfl rfl rfl (by decide +kernel) ⟨Nat.le_of_ble_eq_true rfl, Nat.le_of_ble_eq_true rfl⟩) ⟨Wd_blind, va_recv hK hP (ci := 5) (q0 := (22 + q i)) rfl (wg_P (i := q i) (by first | assumption | omega)), fun U hU hW => ⟨rfl, by rw [hU], Wd_mk (wP_left hP) hE0 hS hU hW⟩⟩ rfl rfl hl.1 rfl (lv_room (Nat.le_of_ble_eq_true rfl)) dX1_fault_28 ⟨(show 0 + 0 ≤ 0 by omega), (show 0 + 0 ≤ 0 by omega)⟩) hS (fun _ _ h => h.elim) (fun _ h => wF_mono hS.1 _ h) (fun rv28 u9 t9 H locs ht hvm hw hB hz hk hS1 => ?_)
        have hP := hP.kept (fun k x hk9 => hk x.1 ((hP k x hk9).lt) (fun h => h))
        have hk0 : ∀ x : Nat, x < s.heap.size → H[x]? = s.heap[x]? := fun x h9 => (hk x (Nat.lt_of_lt_of_le h9 hS.1) (fun h => h)).trans (hk0 x h9)
        have hS := hS1
        obtain rfl := hw
        have hsb1 := sealB_b (σ (22 + q i)) ah
        refine z_icmp_eq (tgt := 36) hx hb dX1_fault_31 (by decide) (by omega) (by omega) (fun cd31 => ?_) (fun cd31 => ?_)
        · skip
          refine lv_aload_n hx hb dX1_fault_36 rfl (lv_at hl 0 rfl) ?_
          refine va_get (D := D) (ci := 3) (v := .ref (a 21)) (C := RX1) (T := TX1) (N := 4) hx hb hts inX1 hown hK hP 20 wg_L rfl 0 (by decide) k17 (fun _ h9 => h9) rfl dX1_fault_37 ?_
          refine lv_iload_n hx hb dX1_fault_40 rfl (lv_at hl 2 rfl) ?_
          refine z_aald (i := i) hx hb hK hP 21 3 wg_AP rfl (by omega) (by omega) (by omega) dX1_fault_41 ?_
          refine va_get (D := D) (ci := 5) (v := .int (zI (σ (22 + q i) 5))) (C := RX3) (T := TX3) (N := 7) hx hb hts inX3 hown hK hP (22 + q i) (wg_P (i := q i) (by first | assumption | omega)) rfl 5 (by decide) k47 (fun _ h9 => h9) rfl dX1_fault_42 ?_
          refine lv_istore_n (lv' := [(1, .int (zI (σ (22 + q i) 5))), (0, .ref (a 20)), (2, .int (zI ((i : Int))))]) hx hb dX1_fault_45 rfl hl (by decide) rfl (fun ls hl => ?_)
          refine lv_iinc (v := zI ((i : Int) + 1)) (lv' := [(2, .int (zI ((i : Int) + 1))), (1, .int (zI (σ (22 + q i) 5))), (0, .ref (a 20))]) hx hb dX1_fault_46 hl (k := 2) rfl (zI_add _ _) (by decide) rfl (fun ls hl => ?_)
          refine lv_goto (tgt := 4) hx hb dX1_fault_49 (by decide) ?_
          exact ih4 (i + 1) (σ (22 + q i) 5) H locs ls (by omega) (by omega) rfl (by omega) (by rw [← hf]; exact (faR_go (by omega) (by rw [← ha]; omega)).symm)  hP hS hk0 (by have h9 := lv_sub hl [2, 1, 0] rfl; exact h9)
        · skip
          refine lv_iload_n hx hb dX1_fault_34 rfl (lv_at hl 2 rfl) ?_
          refine W.widen (k := 0) (n := 0) (by omega) (by omega) ?_
          exact W.iret (v := zI ((i : Int))) hx hb hr (fun t9 ht hW => ⟨⟨_, (), rfl, (by congr 1; rw [← hf]; exact (faR_at (by omega) (by rw [← ha]; omega)).symm), trivial⟩, vF_R ht hS.1 hk0⟩) hS.2.2 dX1_fault_35
  exact loop4 (41) 0 1 s.heap [] ls (by omega) (by omega) rfl (by omega) rfl  hP hS hk0 (lv_sub hl [2, 1, 0] rfl)

set_option maxHeartbeats 4000000 in
set_option maxRecDepth 100000 in
/-- X1_isWhole -/
theorem c_X1_isWhole (l : Launch) (D : va_G) (cy : Nat → ClassId) (a q : Nat → Nat) (σ : Nat → Nat → Int) (sz : Nat) (t0 : Int) (wi : Int) (hO : okA t0 wi q σ) : Met l yX1_isWhole wsX1_isWhole ({ frames := 9, cells := 0, slots := 0, locals := 300 }) (va_Pc [.ref (a 20)] (fun U => U.heap.size = sz ∧ Wd D cy a q σ U)) (va_Qi (fun (r : Int32) (_ : Unit) => (r = zI 1 ∧ (σ 20 1 = σ 20 2 ∧ faF q σ = -1)) ∨ (r = zI 0 ∧ ¬ (σ 20 1 = σ 20 2 ∧ faF q σ = -1))) (fun _ _ => True) (fun _ => False)) 0 0 (wF a sz) := by
  refine Met.ofW (cc := cX1_isWhole) (maxL := 1) (ret := (some .boolean)) (by decide) rfl ?_
  intro p e s m args below meth c s₁ B hml hpc0
  obtain ⟨rfl, hsz, hW0⟩ := hpc0
  have hx := B.exec
  have hb := B.bytes
  have hr := B.returns
  have hts := atoms_spec (ws := wsX1_isWhole) B.pre
  have hown : s.vm.findClass RX1 = some m.cls := findClass_of_methodNamed B.named
  have hlocks := B.notSynchronized
  subst hsz
  obtain ⟨hP00, hE0⟩ := id hW0
  obtain ⟨hK, hinj, hU0, hN0, hstr, hnest⟩ := id hE0
  have hP : va_P D vwCl (wld cy a q σ ++ []) s.heap := by rw [List.append_nil]; exact hP00
  have hD : va_D (wF a s.heap.size) (wld cy a q σ ++ []) := wD_of hinj
  have hA : ∀ x : Nat, s.heap.size ≤ x → wF a s.heap.size x := fun _ h => Or.inr h
  have hS : va_S (wF a s.heap.size) s.heap s.heap [] := va_S.rf
  have hk0 : ∀ x : Nat, x < s.heap.size → s.heap[x]? = s.heap[x]? := fun _ _ => rfl
  have hl := lv_entry ([.ref (a 20)]) (n := 1) (Nat.le_of_ble_eq_true rfl)
  rw [lg_entry_eq]
  generalize (lg_sl ([.ref (a 20)]) ++ List.replicate (1 - (lg_sl ([.ref (a 20)])).length) Slot.unset).toArray = ls at hl ⊢
  have hl : lv_has ls 1 [(0, .ref (a 20))] := hl
  have k22 := hts (.fieldLink RX1 22 "Slewfree$Log" "count" "I") (by decide +kernel)
  have k50 := hts (.fieldLink RX1 50 "Slewfree$Log" "written" "I") (by decide +kernel)
  have inX1 : ∀ w ∈ u_ws RX1 TX1 4, w ∈ wsX1_isWhole := by decide +kernel
  obtain ⟨oS, oW, oC, oZ, oM, oL, oP, oQ, oH⟩ := id hO
  unfold okS at oS; unfold okW at oW; unfold okL at oL
  have hfb := faF_b hO
  refine lv_aload_n hx hb dX1_isWhole_0 rfl (lv_at hl 0 rfl) ?_
  refine va_get (D := D) (ci := 3) (v := .int (zI (σ 20 1))) (C := RX1) (T := TX1) (N := 4) hx hb hts inX1 hown hK hP 20 wg_L rfl 1 (by decide) k22 (fun _ h9 => h9) rfl dX1_isWhole_1 ?_
  refine lv_aload_n hx hb dX1_isWhole_4 rfl (lv_at hl 0 rfl) ?_
  refine va_get (D := D) (ci := 3) (v := .int (zI (σ 20 2))) (C := RX1) (T := TX1) (N := 4) hx hb hts inX1 hown hK hP 20 wg_L rfl 2 (by decide) k50 (fun _ h9 => h9) rfl dX1_isWhole_5 ?_
  refine z_icmp_ne (tgt := 23) hx hb dX1_isWhole_8 (by decide) (by omega) (by omega) (fun cd8 => ?_) (fun cd8 => ?_)
  · skip
    refine lv_iconst (v := zI 0) hx hb dX1_isWhole_23 rfl ?_
    exact W.zret (v := zI 0) (ty := .boolean) hx hb hr (by decide +kernel) (fun t9 ht hW => ⟨⟨_, (), rfl, Or.inr ⟨rfl, (by omega)⟩, trivial⟩, vF_R ht hS.1 hk0⟩) hS.2.2 dX1_isWhole_24
  · skip
    refine lv_aload_n hx hb dX1_isWhole_11 rfl (lv_at hl 0 rfl) ?_
    refine va_calli (va_runV (As := []) (rest := []) ⟨hx, hb, hml, hown, hts⟩ (c_X1_fault l D cy a q σ s.heap.size _ _ hO) (cwV 0 hts gX1_isWhole_X1_fault rfl rfl rfl (by decide +kernel) ⟨Nat.le_of_ble_eq_true rfl, Nat.le_of_ble_eq_true rfl⟩) ⟨Wd_blind, va_recv hK hP (ci := 3) (q0 := 20) rfl wg_L, fun U hU hW => ⟨rfl, by rw [hU], Wd_mk (wP_left hP) hE0 hS hU hW⟩⟩ rfl rfl hl.1 rfl (lv_room (Nat.le_of_ble_eq_true rfl)) dX1_isWhole_12 ⟨(show 0 + 0 ≤ 0 by omega), (show 0 + 0 ≤ 0 by omega)⟩) hS (fun _ _ h => h.elim) (fun _ h => wF_mono hS.1 _ h) (fun rv12 u9 t9 H locs ht hvm hw hB hz hk hS1 => ?_)
    have hP := hP.kept (fun k x hk9 => hk x.1 ((hP k x hk9).lt) (fun h => h))
    have hk0 : ∀ x : Nat, x < s.heap.size → H[x]? = s.heap[x]? := fun x h9 => (hk x (Nat.lt_of_lt_of_le h9 hS.1) (fun h => h)).trans (hk0 x h9)
    have hS := hS1
    obtain rfl := hw
    refine lv_iconst (v := zI (-1)) hx hb dX1_isWhole_15 rfl ?_
    refine z_icmp_ne (tgt := 23) hx hb dX1_isWhole_16 (by decide) (by omega) (by omega) (fun cd16 => ?_) (fun cd16 => ?_)
    · skip
      refine lv_iconst (v := zI 0) hx hb dX1_isWhole_23 rfl ?_
      refine W.widen (k := 0) (n := 0) (by omega) (by omega) ?_
      exact W.zret (v := zI 0) (ty := .boolean) hx hb hr (by decide +kernel) (fun t9 ht hW => ⟨⟨_, (), rfl, Or.inr ⟨rfl, (by omega)⟩, trivial⟩, vF_R ht hS.1 hk0⟩) hS.2.2 dX1_isWhole_24
    · skip
      refine lv_iconst (v := zI 1) hx hb dX1_isWhole_19 rfl ?_
      refine lv_goto (tgt := 24) hx hb dX1_isWhole_20 (by decide) ?_
      refine W.widen (k := 0) (n := 0) (by omega) (by omega) ?_
      exact W.zret (v := zI 1) (ty := .boolean) hx hb hr (by decide +kernel) (fun t9 ht hW => ⟨⟨_, (), rfl, Or.inl ⟨rfl, (by omega)⟩, trivial⟩, vF_R ht hS.1 hk0⟩) hS.2.2 dX1_isWhole_24

set_option maxHeartbeats 4000000 in
set_option maxRecDepth 100000 in
/-- X1_holdsNoOverload -/
theorem c_X1_holdsNoOverload (l : Launch) (D : va_G) (cy : Nat → ClassId) (a q : Nat → Nat) (σ : Nat → Nat → Int) (sz : Nat) (t0 : Int) (wi : Int) (hO : okA t0 wi q σ) : Met l yX1_holdsNoOverload wsX1_holdsNoOverload ({ frames := 8, cells := 0, slots := 0, locals := 200 }) (va_Pc [.ref (a 20)] (fun U => U.heap.size = sz ∧ Wd D cy a q σ U)) (va_Qi (fun (r : Int32) (_ : Unit) => r = zI (1)) (fun _ _ => True) (fun _ => False)) 0 0 (wF a sz) := by
  refine Met.ofW (cc := cX1_holdsNoOverload) (maxL := 2) (ret := (some .boolean)) (by decide) rfl ?_
  intro p e s m args below meth c s₁ B hml hpc0
  obtain ⟨rfl, hsz, hW0⟩ := hpc0
  have hx := B.exec
  have hb := B.bytes
  have hr := B.returns
  have hts := atoms_spec (ws := wsX1_holdsNoOverload) B.pre
  have hown : s.vm.findClass RX1 = some m.cls := findClass_of_methodNamed B.named
  have hlocks := B.notSynchronized
  subst hsz
  obtain ⟨hP00, hE0⟩ := id hW0
  obtain ⟨hK, hinj, hU0, hN0, hstr, hnest⟩ := id hE0
  have hP : va_P D vwCl (wld cy a q σ ++ []) s.heap := by rw [List.append_nil]; exact hP00
  have hD : va_D (wF a s.heap.size) (wld cy a q σ ++ []) := wD_of hinj
  have hA : ∀ x : Nat, s.heap.size ≤ x → wF a s.heap.size x := fun _ h => Or.inr h
  have hS : va_S (wF a s.heap.size) s.heap s.heap [] := va_S.rf
  have hk0 : ∀ x : Nat, x < s.heap.size → s.heap[x]? = s.heap[x]? := fun _ _ => rfl
  have hl := lv_entry ([.ref (a 20)]) (n := 2) (Nat.le_of_ble_eq_true rfl)
  rw [lg_entry_eq]
  generalize (lg_sl ([.ref (a 20)]) ++ List.replicate (2 - (lg_sl ([.ref (a 20)])).length) Slot.unset).toArray = ls at hl ⊢
  have hl : lv_has ls 2 [(0, .ref (a 20))] := hl
  have k17 := hts (.fieldLink RX1 17 "Slewfree$Log" "pages" "[LSlewfree$Page;") (by decide +kernel)
  have k22 := hts (.fieldLink RX1 22 "Slewfree$Log" "count" "I") (by decide +kernel)
  have inX1 : ∀ w ∈ u_ws RX1 TX1 4, w ∈ wsX1_holdsNoOverload := by decide +kernel
  obtain ⟨oS, oW, oC, oZ, oM, oL, oP, oQ, oH⟩ := id hO
  unfold okS at oS; unfold okW at oW; unfold okL at oL
  refine lv_iconst (v := zI 0) hx hb dX1_holdsNoOverload_0 rfl ?_
  refine lv_istore_n (lv' := [(1, .int (zI (0))), (0, .ref (a 20))]) hx hb dX1_holdsNoOverload_1 rfl hl (by decide) rfl (fun ls hl => ?_)
  have loop2 : ∀ (n : Nat) (i : Nat) (H : Heap) (locs : List Loc) (ls : Array Slot), 40 - i < n → ((i : Int) ≤ σ 20 1) → va_P D vwCl (wld cy a q σ ++ []) H → va_S (wF a s.heap.size) s.heap H locs → (∀ x : Nat, x < s.heap.size → H[x]? = s.heap[x]?) → lv_has ls 2 [(0, .ref (a 20)), (1, .int (zI ((i : Int))))] → W p l e (headSpec wsX1_holdsNoOverload ({ frames := 8, cells := 0, slots := 0, locals := 200 })).room s m ([.ref (a 20)] : List Value).toArray below meth c H locs (0) (0) (MQ below (va_Qi (fun (r : Int32) (_ : Unit) => r = zI (1)) (fun _ _ => True) (fun _ => False)) ([.ref (a 20)] : List Value).toArray s 0 0 (wF a s.heap.size)) (F0 m 2 ls []) := by
    intro n
    induction n with
    | zero => intro i H locs ls h0; exact absurd h0 (Nat.not_lt_zero _)
    | succ n ih2 =>
      intro i H locs ls hms hi hP hS hk0 hl
      refine lv_iload_n hx hb dX1_holdsNoOverload_2 rfl (lv_at hl 1 rfl) ?_
      refine lv_aload_n hx hb dX1_holdsNoOverload_3 rfl (lv_at hl 0 rfl) ?_
      refine va_get (D := D) (ci := 3) (v := .int (zI (σ 20 1))) (C := RX1) (T := TX1) (N := 4) hx hb hts inX1 hown hK hP 20 wg_L rfl 1 (by decide) k22 (fun _ h9 => h9) rfl dX1_holdsNoOverload_4 ?_
      refine z_icmp_ge (tgt := 30) hx hb dX1_holdsNoOverload_7 (by decide) (by omega) (by omega) (fun cd7 => ?_) (fun cd7 => ?_)
      · skip
        refine lv_iconst (v := zI 1) hx hb dX1_holdsNoOverload_30 rfl ?_
        exact W.zret (v := zI (1)) (ty := .boolean) hx hb hr (by decide +kernel) (fun t9 ht hW => ⟨⟨_, (), rfl, rfl, trivial⟩, vF_R ht hS.1 hk0⟩) hS.2.2 dX1_holdsNoOverload_31
      · skip
        have oPi := oP (q i) (oQ.1 i (by omega)); unfold okP at oPi
        have hqi := oQ.1 i (by omega)
        refine lv_aload_n hx hb dX1_holdsNoOverload_10 rfl (lv_at hl 0 rfl) ?_
        refine va_get (D := D) (ci := 3) (v := .ref (a 21)) (C := RX1) (T := TX1) (N := 4) hx hb hts inX1 hown hK hP 20 wg_L rfl 0 (by decide) k17 (fun _ h9 => h9) rfl dX1_holdsNoOverload_11 ?_
        refine lv_iload_n hx hb dX1_holdsNoOverload_14 rfl (lv_at hl 1 rfl) ?_
        refine z_aald (i := i) hx hb hK hP 21 3 wg_AP rfl (by omega) (by omega) (by omega) dX1_holdsNoOverload_15 ?_
        refine va_calli (va_runV (As := []) (rest := []) ⟨hx, hb, hml, hown, hts⟩ (c_X3_isOverload l D cy a q σ H.size (q i) (by omega) (oP (q i) (oQ.1 i (by omega)))) (cwV 0 hts gX1_holdsNoOverload_X3_isOverload rfl rfl rfl (by decide +kernel) ⟨Nat.le_of_ble_eq_true rfl, Nat.le_of_ble_eq_true rfl⟩) ⟨Wd_blind, va_recv hK hP (ci := 5) (q0 := (22 + q i)) rfl (wg_P (i := q i) (by first | assumption | omega)), fun U hU hW => ⟨rfl, by rw [hU], Wd_mk (wP_left hP) hE0 hS hU hW⟩⟩ rfl rfl hl.1 rfl (lv_room (Nat.le_of_ble_eq_true rfl)) dX1_holdsNoOverload_16 ⟨(show 0 + 0 ≤ 0 by omega), (show 0 + 0 ≤ 0 by omega)⟩) hS (fun _ _ h => h.elim) (fun _ h => wF_mono hS.1 _ h) (fun rv16 u9 t9 H locs ht hvm hw hB hz hk hS1 => ?_)
        have hP := hP.kept (fun k x hk9 => hk x.1 ((hP k x hk9).lt) (fun h => h))
        have hk0 : ∀ x : Nat, x < s.heap.size → H[x]? = s.heap[x]? := fun x h9 => (hk x (Nat.lt_of_lt_of_le h9 hS.1) (fun h => h)).trans (hk0 x h9)
        have hS := hS1
        rcases hw with ⟨rfl, bd16⟩ | ⟨rfl, bd16⟩
        · skip
          refine z_if_eq (tgt := 24) hx hb dX1_holdsNoOverload_19 (by decide) (by decide) (fun cd19 => absurd cd19 (by decide)) (fun _ => ?_)
          refine lv_iconst (v := zI 0) hx hb dX1_holdsNoOverload_22 rfl ?_
          refine W.widen (k := 0) (n := 0) (by omega) (by omega) ?_
          exact W.zret (v := zI (0)) (ty := .boolean) hx hb hr (by decide +kernel) (fun t9 ht hW => ⟨⟨_, (), rfl, (by exfalso; omega), trivial⟩, vF_R ht hS.1 hk0⟩) hS.2.2 dX1_holdsNoOverload_23
        · skip
          refine z_if_eq (tgt := 24) hx hb dX1_holdsNoOverload_19 (by decide) (by decide) (fun _ => ?_) (fun cd19 => absurd cd19 (by decide))
          refine lv_iinc (v := zI ((i : Int) + 1)) (lv' := [(1, .int (zI ((i : Int) + 1))), (0, .ref (a 20))]) hx hb dX1_holdsNoOverload_24 hl (k := 1) rfl (zI_add _ _) (by decide) rfl (fun ls hl => ?_)
          refine lv_goto (tgt := 2) hx hb dX1_holdsNoOverload_27 (by decide) ?_
          exact ih2 (i + 1) H locs ls (by omega) (by omega)  hP hS hk0 (by have h9 := lv_sub hl [1, 0] rfl; exact h9)
  exact loop2 (41) 0 s.heap [] ls (by omega) (by omega)  hP hS hk0 (lv_sub hl [1, 0] rfl)

set_option maxHeartbeats 4000000 in
set_option maxRecDepth 100000 in
/-- X7_isSoundCrane -/
theorem c_X7_isSoundCrane (l : Launch) (D : va_G) (cy : Nat → ClassId) (a q : Nat → Nat) (σ : Nat → Nat → Int) (sz : Nat) (i : Nat) (hi : i < 3) (t0 : Int) (hO : okA t0 (σ 1 5) q σ) (hc : (i : Int) < σ 0 5) : Met l yX7_isSoundCrane wsX7_isSoundCrane ({ frames := 8, cells := 0, slots := 0, locals := 200 }) (va_Pc [.ref (a 0), .ref (a (3 + i))] (fun U => U.heap.size = sz ∧ Wd D cy a q σ U)) (va_Qi (fun (r : Int32) (_ : Unit) => r = zI (1)) (fun _ _ => True) (fun _ => False)) 0 0 (wF a sz) := by
  refine Met.ofW (cc := cX7_isSoundCrane) (maxL := 2) (ret := (some .boolean)) (by decide) rfl ?_
  intro p e s m args below meth c s₁ B hml hpc0
  obtain ⟨rfl, hsz, hW0⟩ := hpc0
  have hx := B.exec
  have hb := B.bytes
  have hr := B.returns
  have hts := atoms_spec (ws := wsX7_isSoundCrane) B.pre
  have hown : s.vm.findClass RX7 = some m.cls := findClass_of_methodNamed B.named
  have hlocks := B.notSynchronized
  subst hsz
  obtain ⟨hP00, hE0⟩ := id hW0
  obtain ⟨hK, hinj, hU0, hN0, hstr, hnest⟩ := id hE0
  have hP : va_P D vwCl (wld cy a q σ ++ []) s.heap := by rw [List.append_nil]; exact hP00
  have hD : va_D (wF a s.heap.size) (wld cy a q σ ++ []) := wD_of hinj
  have hA : ∀ x : Nat, s.heap.size ≤ x → wF a s.heap.size x := fun _ h => Or.inr h
  have hS : va_S (wF a s.heap.size) s.heap s.heap [] := va_S.rf
  have hk0 : ∀ x : Nat, x < s.heap.size → s.heap[x]? = s.heap[x]? := fun _ _ => rfl
  have hl := lv_entry ([.ref (a 0), .ref (a (3 + i))]) (n := 2) (Nat.le_of_ble_eq_true rfl)
  rw [lg_entry_eq]
  generalize (lg_sl ([.ref (a 0), .ref (a (3 + i))]) ++ List.replicate (2 - (lg_sl ([.ref (a 0), .ref (a (3 + i))])).length) Slot.unset).toArray = ls at hl ⊢
  have hl : lv_has ls 2 [(0, .ref (a 0)), (1, .ref (a (3 + i)))] := hl
  have k10 := hts (.fieldLink RX7 10 "Slewfree" "weather" "LSlewfree$Weather;") (by decide +kernel)
  have k66 := hts (.fieldLink RX7 66 "Slewfree$Crane" "reach" "I") (by decide +kernel)
  have k72 := hts (.fieldLink RX7 72 "Slewfree$Crane" "radius" "I") (by decide +kernel)
  have k79 := hts (.fieldLink RX7 79 "Slewfree$Crane" "isLocked" "Z") (by decide +kernel)
  have k156 := hts (.fieldLink RX7 156 "Slewfree$Crane" "wear" "I") (by decide +kernel)
  have inX0 : ∀ w ∈ u_ws RX0 TX0 12, w ∈ wsX7_isSoundCrane := by decide +kernel
  have inX7 : ∀ w ∈ u_ws RX7 TX7 9, w ∈ wsX7_isSoundCrane := by decide +kernel
  obtain ⟨oS, oW, oC, oZ, oM, oL, oP, oQ, oH⟩ := id hO
  unfold okS at oS; unfold okW at oW; unfold okL at oL
  have oC_i := oC i (by omega); unfold okC at oC_i
  refine lv_aload_n hx hb dX7_isSoundCrane_0 rfl (lv_at hl 1 rfl) ?_
  refine va_get (D := D) (ci := 2) (v := .int (zI (σ (3 + i) 5))) (C := RX0) (T := TX0) (N := 12) hx hb hts inX0 hown hK hP (3 + i) (wg_C (i := i) (by first | assumption | omega)) rfl 5 (by decide) k79 (fun _ h9 => h9) rfl dX7_isSoundCrane_1 ?_
  refine z_if_eq (tgt := 17) hx hb dX7_isSoundCrane_4 (by decide) (by omega) (fun cd4 => ?_) (fun cd4 => ?_)
  · skip
    refine lv_aload_n hx hb dX7_isSoundCrane_17 rfl (lv_at hl 1 rfl) ?_
    refine va_get (D := D) (ci := 2) (v := .int (zI (σ (3 + i) 4))) (C := RX0) (T := TX0) (N := 12) hx hb hts inX0 hown hK hP (3 + i) (wg_C (i := i) (by first | assumption | omega)) rfl 4 (by decide) k72 (fun _ h9 => h9) rfl dX7_isSoundCrane_18 ?_
    refine lv_bipush (v := zI 10) hx hb dX7_isSoundCrane_21 (by decide +kernel) ?_
    refine lv_aload_n hx hb dX7_isSoundCrane_23 rfl (lv_at hl 1 rfl) ?_
    refine va_get (D := D) (ci := 2) (v := .int (zI (σ (3 + i) 1))) (C := RX0) (T := TX0) (N := 12) hx hb hts inX0 hown hK hP (3 + i) (wg_C (i := i) (by first | assumption | omega)) rfl 1 (by decide) k66 (fun _ h9 => h9) rfl dX7_isSoundCrane_24 ?_
    refine va_calli (va_runS (As := [.int (zI (σ (3 + i) 4)), .int (zI (10)), .int (zI (σ (3 + i) 1))]) (rest := []) ⟨hx, hb, hml, hown, hts⟩ (c_X7_isOutside l (σ (3 + i) 4) (by omega) (10) (by omega) (σ (3 + i) 1) (by omega)) (va_cwS 3 hts gX7_isSoundCrane_X7_isOutside rfl rfl rfl (by decide +kernel) ⟨Nat.le_of_ble_eq_true rfl, Nat.le_of_ble_eq_true rfl⟩) ⟨fun _ _ _ _ h => h, fun _ _ _ => ⟨rfl, trivial⟩⟩ rfl rfl hl.1 rfl (lv_room (Nat.le_of_ble_eq_true rfl)) dX7_isSoundCrane_27 ⟨(show 0 + 0 ≤ 0 by omega), (show 0 + 0 ≤ 0 by omega)⟩) hS (fun _ _ h => h.elim) (fun _ h => h.elim) (fun rv27 u9 t9 H locs ht hvm hw hB hz hk hS1 => ?_)
    have hP := hP.kept (fun k x hk9 => hk x.1 ((hP k x hk9).lt) (fun h => h))
    have hk0 : ∀ x : Nat, x < s.heap.size → H[x]? = s.heap[x]? := fun x h9 => (hk x (Nat.lt_of_lt_of_le h9 hS.1) (fun h => h)).trans (hk0 x h9)
    have hS := hS1
    rcases hw with ⟨rfl, bd27⟩ | ⟨rfl, bd27⟩
    · skip
      refine z_if_ne (tgt := 44) hx hb dX7_isSoundCrane_30 (by decide) (by decide) (fun _ => ?_) (fun cd30 => absurd cd30 (by decide))
      refine lv_iconst (v := zI 0) hx hb dX7_isSoundCrane_44 rfl ?_
      refine W.widen (k := 0) (n := 0) (by omega) (by omega) ?_
      exact W.zret (v := zI (0)) (ty := .boolean) hx hb hr (by decide +kernel) (fun t9 ht hW => ⟨⟨_, (), rfl, (by exfalso; omega), trivial⟩, vF_R ht hS.1 hk0⟩) hS.2.2 dX7_isSoundCrane_45
    · skip
      refine z_if_ne (tgt := 44) hx hb dX7_isSoundCrane_30 (by decide) (by decide) (fun cd30 => absurd cd30 (by decide)) (fun _ => ?_)
      refine lv_aload_n hx hb dX7_isSoundCrane_33 rfl (lv_at hl 1 rfl) ?_
      refine va_get (D := D) (ci := 2) (v := .int (zI (σ (3 + i) 10))) (C := RX0) (T := TX0) (N := 12) hx hb hts inX0 hown hK hP (3 + i) (wg_C (i := i) (by first | assumption | omega)) rfl 10 (by decide) k156 (fun _ h9 => h9) rfl dX7_isSoundCrane_34 ?_
      refine z_if_lt (tgt := 44) hx hb dX7_isSoundCrane_37 (by decide) (by omega) (fun cd37 => ?_) (fun cd37 => ?_)
      · skip
        refine lv_iconst (v := zI 0) hx hb dX7_isSoundCrane_44 rfl ?_
        refine W.widen (k := 0) (n := 0) (by omega) (by omega) ?_
        exact W.zret (v := zI (0)) (ty := .boolean) hx hb hr (by decide +kernel) (fun t9 ht hW => ⟨⟨_, (), rfl, (by exfalso; omega), trivial⟩, vF_R ht hS.1 hk0⟩) hS.2.2 dX7_isSoundCrane_45
      · skip
        refine lv_iconst (v := zI 1) hx hb dX7_isSoundCrane_40 rfl ?_
        refine lv_goto (tgt := 45) hx hb dX7_isSoundCrane_41 (by decide) ?_
        refine W.widen (k := 0) (n := 0) (by omega) (by omega) ?_
        exact W.zret (v := zI (1)) (ty := .boolean) hx hb hr (by decide +kernel) (fun t9 ht hW => ⟨⟨_, (), rfl, rfl, trivial⟩, vF_R ht hS.1 hk0⟩) hS.2.2 dX7_isSoundCrane_45
  · skip
    refine lv_aload_n hx hb dX7_isSoundCrane_7 rfl (lv_at hl 0 rfl) ?_
    refine va_get (D := D) (ci := 9) (v := .ref (a 1)) (C := RX7) (T := TX7) (N := 9) hx hb hts inX7 hown hK hP 0 wg_S rfl 0 (by decide) k10 (fun _ h9 => h9) rfl dX7_isSoundCrane_8 ?_
    refine va_calli (va_runV (As := []) (rest := []) ⟨hx, hb, hml, hown, hts⟩ (c_X5_isStorm l D cy a q σ s.heap.size (by first | assumption | omega)) (cwV 0 hts gX7_isSoundCrane_X5_isStorm rfl rfl rfl (by decide +kernel) ⟨Nat.le_of_ble_eq_true rfl, Nat.le_of_ble_eq_true rfl⟩) ⟨Wd_blind, va_recv hK hP (ci := 7) (q0 := 1) rfl wg_W, fun U hU hW => ⟨rfl, by rw [hU], Wd_mk (wP_left hP) hE0 hS hU hW⟩⟩ rfl rfl hl.1 rfl (lv_room (Nat.le_of_ble_eq_true rfl)) dX7_isSoundCrane_11 ⟨(show 0 + 0 ≤ 0 by omega), (show 0 + 0 ≤ 0 by omega)⟩) hS (fun _ _ h => h.elim) (fun _ h => wF_mono hS.1 _ h) (fun rv11 u9 t9 H locs ht hvm hw hB hz hk hS1 => ?_)
    have hP := hP.kept (fun k x hk9 => hk x.1 ((hP k x hk9).lt) (fun h => h))
    have hk0 : ∀ x : Nat, x < s.heap.size → H[x]? = s.heap[x]? := fun x h9 => (hk x (Nat.lt_of_lt_of_le h9 hS.1) (fun h => h)).trans (hk0 x h9)
    have hS := hS1
    rcases hw with ⟨rfl, bd11⟩ | ⟨rfl, bd11⟩
    · skip
      refine z_if_ne (tgt := 44) hx hb dX7_isSoundCrane_14 (by decide) (by decide) (fun _ => ?_) (fun cd14 => absurd cd14 (by decide))
      refine lv_iconst (v := zI 0) hx hb dX7_isSoundCrane_44 rfl ?_
      refine W.widen (k := 0) (n := 0) (by omega) (by omega) ?_
      exact W.zret (v := zI (0)) (ty := .boolean) hx hb hr (by decide +kernel) (fun t9 ht hW => ⟨⟨_, (), rfl, (by exfalso; omega), trivial⟩, vF_R ht hS.1 hk0⟩) hS.2.2 dX7_isSoundCrane_45
    · skip
      refine z_if_ne (tgt := 44) hx hb dX7_isSoundCrane_14 (by decide) (by decide) (fun cd14 => absurd cd14 (by decide)) (fun _ => ?_)
      refine lv_aload_n hx hb dX7_isSoundCrane_17 rfl (lv_at hl 1 rfl) ?_
      refine va_get (D := D) (ci := 2) (v := .int (zI (σ (3 + i) 4))) (C := RX0) (T := TX0) (N := 12) hx hb hts inX0 hown hK hP (3 + i) (wg_C (i := i) (by first | assumption | omega)) rfl 4 (by decide) k72 (fun _ h9 => h9) rfl dX7_isSoundCrane_18 ?_
      refine lv_bipush (v := zI 10) hx hb dX7_isSoundCrane_21 (by decide +kernel) ?_
      refine lv_aload_n hx hb dX7_isSoundCrane_23 rfl (lv_at hl 1 rfl) ?_
      refine va_get (D := D) (ci := 2) (v := .int (zI (σ (3 + i) 1))) (C := RX0) (T := TX0) (N := 12) hx hb hts inX0 hown hK hP (3 + i) (wg_C (i := i) (by first | assumption | omega)) rfl 1 (by decide) k66 (fun _ h9 => h9) rfl dX7_isSoundCrane_24 ?_
      refine va_calli (va_runS (As := [.int (zI (σ (3 + i) 4)), .int (zI (10)), .int (zI (σ (3 + i) 1))]) (rest := []) ⟨hx, hb, hml, hown, hts⟩ (c_X7_isOutside l (σ (3 + i) 4) (by omega) (10) (by omega) (σ (3 + i) 1) (by omega)) (va_cwS 3 hts gX7_isSoundCrane_X7_isOutside rfl rfl rfl (by decide +kernel) ⟨Nat.le_of_ble_eq_true rfl, Nat.le_of_ble_eq_true rfl⟩) ⟨fun _ _ _ _ h => h, fun _ _ _ => ⟨rfl, trivial⟩⟩ rfl rfl hl.1 rfl (lv_room (Nat.le_of_ble_eq_true rfl)) dX7_isSoundCrane_27 ⟨(show 0 + 0 + 0 ≤ 0 by omega), (show 0 + 0 + 0 ≤ 0 by omega)⟩) hS (fun _ _ h => h.elim) (fun _ h => h.elim) (fun rv27 u9 t9 H locs ht hvm hw hB hz hk hS1 => ?_)
      have hP := hP.kept (fun k x hk9 => hk x.1 ((hP k x hk9).lt) (fun h => h))
      have hk0 : ∀ x : Nat, x < s.heap.size → H[x]? = s.heap[x]? := fun x h9 => (hk x (Nat.lt_of_lt_of_le h9 hS.1) (fun h => h)).trans (hk0 x h9)
      have hS := hS1
      rcases hw with ⟨rfl, bd27⟩ | ⟨rfl, bd27⟩
      · skip
        refine z_if_ne (tgt := 44) hx hb dX7_isSoundCrane_30 (by decide) (by decide) (fun _ => ?_) (fun cd30 => absurd cd30 (by decide))
        refine lv_iconst (v := zI 0) hx hb dX7_isSoundCrane_44 rfl ?_
        refine W.widen (k := 0) (n := 0) (by omega) (by omega) ?_
        exact W.zret (v := zI (0)) (ty := .boolean) hx hb hr (by decide +kernel) (fun t9 ht hW => ⟨⟨_, (), rfl, (by exfalso; omega), trivial⟩, vF_R ht hS.1 hk0⟩) hS.2.2 dX7_isSoundCrane_45
      · skip
        refine z_if_ne (tgt := 44) hx hb dX7_isSoundCrane_30 (by decide) (by decide) (fun cd30 => absurd cd30 (by decide)) (fun _ => ?_)
        refine lv_aload_n hx hb dX7_isSoundCrane_33 rfl (lv_at hl 1 rfl) ?_
        refine va_get (D := D) (ci := 2) (v := .int (zI (σ (3 + i) 10))) (C := RX0) (T := TX0) (N := 12) hx hb hts inX0 hown hK hP (3 + i) (wg_C (i := i) (by first | assumption | omega)) rfl 10 (by decide) k156 (fun _ h9 => h9) rfl dX7_isSoundCrane_34 ?_
        refine z_if_lt (tgt := 44) hx hb dX7_isSoundCrane_37 (by decide) (by omega) (fun cd37 => ?_) (fun cd37 => ?_)
        · skip
          refine lv_iconst (v := zI 0) hx hb dX7_isSoundCrane_44 rfl ?_
          refine W.widen (k := 0) (n := 0) (by omega) (by omega) ?_
          exact W.zret (v := zI (0)) (ty := .boolean) hx hb hr (by decide +kernel) (fun t9 ht hW => ⟨⟨_, (), rfl, (by exfalso; omega), trivial⟩, vF_R ht hS.1 hk0⟩) hS.2.2 dX7_isSoundCrane_45
        · skip
          refine lv_iconst (v := zI 1) hx hb dX7_isSoundCrane_40 rfl ?_
          refine lv_goto (tgt := 45) hx hb dX7_isSoundCrane_41 (by decide) ?_
          refine W.widen (k := 0) (n := 0) (by omega) (by omega) ?_
          exact W.zret (v := zI (1)) (ty := .boolean) hx hb hr (by decide +kernel) (fun t9 ht hW => ⟨⟨_, (), rfl, rfl, trivial⟩, vF_R ht hS.1 hk0⟩) hS.2.2 dX7_isSoundCrane_45

set_option maxHeartbeats 4000000 in
set_option maxRecDepth 100000 in
/-- X7_isSound -/
theorem c_X7_isSound (l : Launch) (D : va_G) (cy : Nat → ClassId) (a q : Nat → Nat) (σ : Nat → Nat → Int) (sz : Nat) (t0 : Int) (hO : okA t0 (σ 1 5) q σ) : Met l yX7_isSound wsX7_isSound ({ frames := 10, cells := 0, slots := 0, locals := 400 }) (va_Pc [.ref (a 0)] (fun U => U.heap.size = sz ∧ Wd D cy a q σ U)) (va_Qi (fun (r : Int32) (_ : Unit) => r = zI (1)) (fun _ _ => True) (fun _ => False)) 0 0 (wF a sz) := by
  refine Met.ofW (cc := cX7_isSound) (maxL := 2) (ret := (some .boolean)) (by decide) rfl ?_
  intro p e s m args below meth c s₁ B hml hpc0
  obtain ⟨rfl, hsz, hW0⟩ := hpc0
  have hx := B.exec
  have hb := B.bytes
  have hr := B.returns
  have hts := atoms_spec (ws := wsX7_isSound) B.pre
  have hown : s.vm.findClass RX7 = some m.cls := findClass_of_methodNamed B.named
  have hlocks := B.notSynchronized
  subst hsz
  obtain ⟨hP00, hE0⟩ := id hW0
  obtain ⟨hK, hinj, hU0, hN0, hstr, hnest⟩ := id hE0
  have hP : va_P D vwCl (wld cy a q σ ++ []) s.heap := by rw [List.append_nil]; exact hP00
  have hD : va_D (wF a s.heap.size) (wld cy a q σ ++ []) := wD_of hinj
  have hA : ∀ x : Nat, s.heap.size ≤ x → wF a s.heap.size x := fun _ h => Or.inr h
  have hS : va_S (wF a s.heap.size) s.heap s.heap [] := va_S.rf
  have hk0 : ∀ x : Nat, x < s.heap.size → s.heap[x]? = s.heap[x]? := fun _ _ => rfl
  have hl := lv_entry ([.ref (a 0)]) (n := 2) (Nat.le_of_ble_eq_true rfl)
  rw [lg_entry_eq]
  generalize (lg_sl ([.ref (a 0)]) ++ List.replicate (2 - (lg_sl ([.ref (a 0)])).length) Slot.unset).toArray = ls at hl ⊢
  have hl : lv_has ls 2 [(0, .ref (a 0))] := hl
  have k18 := hts (.fieldLink RX7 18 "Slewfree" "cranes" "[LSlewfree$Crane;") (by decide +kernel)
  have k42 := hts (.fieldLink RX7 42 "Slewfree" "log" "LSlewfree$Log;") (by decide +kernel)
  have k57 := hts (.fieldLink RX7 57 "Slewfree" "craneCount" "I") (by decide +kernel)
  have inX7 : ∀ w ∈ u_ws RX7 TX7 9, w ∈ wsX7_isSound := by decide +kernel
  obtain ⟨oS, oW, oC, oZ, oM, oL, oP, oQ, oH⟩ := id hO
  unfold okS at oS; unfold okW at oW; unfold okL at oL
  refine lv_iconst (v := zI 0) hx hb dX7_isSound_0 rfl ?_
  refine lv_istore_n (lv' := [(1, .int (zI (0))), (0, .ref (a 0))]) hx hb dX7_isSound_1 rfl hl (by decide) rfl (fun ls hl => ?_)
  have loop2 : ∀ (n : Nat) (i : Nat) (H : Heap) (locs : List Loc) (ls : Array Slot), 3 - i < n → ((i : Int) ≤ σ 0 5) → va_P D vwCl (wld cy a q σ ++ []) H → va_S (wF a s.heap.size) s.heap H locs → (∀ x : Nat, x < s.heap.size → H[x]? = s.heap[x]?) → lv_has ls 2 [(0, .ref (a 0)), (1, .int (zI ((i : Int))))] → W p l e (headSpec wsX7_isSound ({ frames := 10, cells := 0, slots := 0, locals := 400 })).room s m ([.ref (a 0)] : List Value).toArray below meth c H locs (0) (0) (MQ below (va_Qi (fun (r : Int32) (_ : Unit) => r = zI (1)) (fun _ _ => True) (fun _ => False)) ([.ref (a 0)] : List Value).toArray s 0 0 (wF a s.heap.size)) (F0 m 2 ls []) := by
    intro n
    induction n with
    | zero => intro i H locs ls h0; exact absurd h0 (Nat.not_lt_zero _)
    | succ n ih2 =>
      intro i H locs ls hms hi hP hS hk0 hl
      refine lv_iload_n hx hb dX7_isSound_2 rfl (lv_at hl 1 rfl) ?_
      refine lv_aload_n hx hb dX7_isSound_3 rfl (lv_at hl 0 rfl) ?_
      refine va_get (D := D) (ci := 9) (v := .int (zI (σ 0 5))) (C := RX7) (T := TX7) (N := 9) hx hb hts inX7 hown hK hP 0 wg_S rfl 5 (by decide) k57 (fun _ h9 => h9) rfl dX7_isSound_4 ?_
      refine z_icmp_ge (tgt := 31) hx hb dX7_isSound_7 (by decide) (by omega) (by omega) (fun cd7 => ?_) (fun cd7 => ?_)
      · skip
        refine lv_aload_n hx hb dX7_isSound_31 rfl (lv_at hl 0 rfl) ?_
        refine va_get (D := D) (ci := 9) (v := .ref (a 20)) (C := RX7) (T := TX7) (N := 9) hx hb hts inX7 hown hK hP 0 wg_S rfl 4 (by decide) k42 (fun _ h9 => h9) rfl dX7_isSound_32 ?_
        refine va_calli (va_runV (As := []) (rest := []) ⟨hx, hb, hml, hown, hts⟩ (c_X1_isWhole l D cy a q σ H.size _ _ hO) (cwV 0 hts gX7_isSound_X1_isWhole rfl rfl rfl (by decide +kernel) ⟨Nat.le_of_ble_eq_true rfl, Nat.le_of_ble_eq_true rfl⟩) ⟨Wd_blind, va_recv hK hP (ci := 3) (q0 := 20) rfl wg_L, fun U hU hW => ⟨rfl, by rw [hU], Wd_mk (wP_left hP) hE0 hS hU hW⟩⟩ rfl rfl hl.1 rfl (lv_room (Nat.le_of_ble_eq_true rfl)) dX7_isSound_35 ⟨(show 0 + 0 ≤ 0 by omega), (show 0 + 0 ≤ 0 by omega)⟩) hS (fun _ _ h => h.elim) (fun _ h => wF_mono hS.1 _ h) (fun rv35 u9 t9 H locs ht hvm hw hB hz hk hS1 => ?_)
        have hP := hP.kept (fun k x hk9 => hk x.1 ((hP k x hk9).lt) (fun h => h))
        have hk0 : ∀ x : Nat, x < s.heap.size → H[x]? = s.heap[x]? := fun x h9 => (hk x (Nat.lt_of_lt_of_le h9 hS.1) (fun h => h)).trans (hk0 x h9)
        have hS := hS1
        rcases hw with ⟨rfl, bd35⟩ | ⟨rfl, bd35⟩
        · skip
          refine z_if_eq (tgt := 51) hx hb dX7_isSound_38 (by decide) (by decide) (fun cd38 => absurd cd38 (by decide)) (fun _ => ?_)
          refine lv_aload_n hx hb dX7_isSound_41 rfl (lv_at hl 0 rfl) ?_
          refine va_get (D := D) (ci := 9) (v := .ref (a 20)) (C := RX7) (T := TX7) (N := 9) hx hb hts inX7 hown hK hP 0 wg_S rfl 4 (by decide) k42 (fun _ h9 => h9) rfl dX7_isSound_42 ?_
          refine va_calli (va_runV (As := []) (rest := []) ⟨hx, hb, hml, hown, hts⟩ (c_X1_holdsNoOverload l D cy a q σ H.size _ _ hO) (cwV 0 hts gX7_isSound_X1_holdsNoOverload rfl rfl rfl (by decide +kernel) ⟨Nat.le_of_ble_eq_true rfl, Nat.le_of_ble_eq_true rfl⟩) ⟨Wd_blind, va_recv hK hP (ci := 3) (q0 := 20) rfl wg_L, fun U hU hW => ⟨rfl, by rw [hU], Wd_mk (wP_left hP) hE0 hS hU hW⟩⟩ rfl rfl hl.1 rfl (lv_room (Nat.le_of_ble_eq_true rfl)) dX7_isSound_45 ⟨(show 0 + 0 + 0 ≤ 0 by omega), (show 0 + 0 + 0 ≤ 0 by omega)⟩) hS (fun _ _ h => h.elim) (fun _ h => wF_mono hS.1 _ h) (fun rv45 u9 t9 H locs ht hvm hw hB hz hk hS1 => ?_)
          have hP := hP.kept (fun k x hk9 => hk x.1 ((hP k x hk9).lt) (fun h => h))
          have hk0 : ∀ x : Nat, x < s.heap.size → H[x]? = s.heap[x]? := fun x h9 => (hk x (Nat.lt_of_lt_of_le h9 hS.1) (fun h => h)).trans (hk0 x h9)
          have hS := hS1
          obtain rfl := hw
          refine z_if_eq (tgt := 55) hx hb dX7_isSound_48 (by decide) (by decide) (fun cd48 => absurd cd48 (by decide)) (fun _ => ?_)
          refine lv_iconst (v := zI 1) hx hb dX7_isSound_51 rfl ?_
          refine lv_goto (tgt := 56) hx hb dX7_isSound_52 (by decide) ?_
          refine W.widen (k := 0) (n := 0) (by omega) (by omega) ?_
          exact W.zret (v := zI (1)) (ty := .boolean) hx hb hr (by decide +kernel) (fun t9 ht hW => ⟨⟨_, (), rfl, rfl, trivial⟩, vF_R ht hS.1 hk0⟩) hS.2.2 dX7_isSound_56
        · skip
          refine z_if_eq (tgt := 51) hx hb dX7_isSound_38 (by decide) (by decide) (fun _ => ?_) (fun cd38 => absurd cd38 (by decide))
          refine lv_iconst (v := zI 1) hx hb dX7_isSound_51 rfl ?_
          refine lv_goto (tgt := 56) hx hb dX7_isSound_52 (by decide) ?_
          refine W.widen (k := 0) (n := 0) (by omega) (by omega) ?_
          exact W.zret (v := zI (1)) (ty := .boolean) hx hb hr (by decide +kernel) (fun t9 ht hW => ⟨⟨_, (), rfl, rfl, trivial⟩, vF_R ht hS.1 hk0⟩) hS.2.2 dX7_isSound_56
      · skip
        refine lv_aload_n hx hb dX7_isSound_10 rfl (lv_at hl 0 rfl) ?_
        refine lv_aload_n hx hb dX7_isSound_11 rfl (lv_at hl 0 rfl) ?_
        refine va_get (D := D) (ci := 9) (v := .ref (a 2)) (C := RX7) (T := TX7) (N := 9) hx hb hts inX7 hown hK hP 0 wg_S rfl 1 (by decide) k18 (fun _ h9 => h9) rfl dX7_isSound_12 ?_
        refine lv_iload_n hx hb dX7_isSound_15 rfl (lv_at hl 1 rfl) ?_
        refine z_aald (i := i) hx hb hK hP 2 0 wg_AC rfl (by omega) (by omega) (by omega) dX7_isSound_16 ?_
        refine va_calli (va_runV (As := [.ref (a (3 + i))]) (rest := []) ⟨hx, hb, hml, hown, hts⟩ (c_X7_isSoundCrane l D cy a q σ H.size i (by omega) _ hO (by omega)) (cwV 1 hts gX7_isSound_X7_isSoundCrane rfl rfl rfl (by decide +kernel) ⟨Nat.le_of_ble_eq_true rfl, Nat.le_of_ble_eq_true rfl⟩) ⟨Wd_blind, va_recv hK hP (ci := 9) (q0 := 0) rfl wg_S, fun U hU hW => ⟨rfl, by rw [hU], Wd_mk (wP_left hP) hE0 hS hU hW⟩⟩ rfl rfl hl.1 rfl (lv_room (Nat.le_of_ble_eq_true rfl)) dX7_isSound_17 ⟨(show 0 + 0 ≤ 0 by omega), (show 0 + 0 ≤ 0 by omega)⟩) hS (fun _ _ h => h.elim) (fun _ h => wF_mono hS.1 _ h) (fun rv17 u9 t9 H locs ht hvm hw hB hz hk hS1 => ?_)
        have hP := hP.kept (fun k x hk9 => hk x.1 ((hP k x hk9).lt) (fun h => h))
        have hk0 : ∀ x : Nat, x < s.heap.size → H[x]? = s.heap[x]? := fun x h9 => (hk x (Nat.lt_of_lt_of_le h9 hS.1) (fun h => h)).trans (hk0 x h9)
        have hS := hS1
        obtain rfl := hw
        refine z_if_ne (tgt := 25) hx hb dX7_isSound_20 (by decide) (by decide) (fun _ => ?_) (fun cd20 => absurd cd20 (by decide))
        refine lv_iinc (v := zI ((i : Int) + 1)) (lv' := [(1, .int (zI ((i : Int) + 1))), (0, .ref (a 0))]) hx hb dX7_isSound_25 hl (k := 1) rfl (zI_add _ _) (by decide) rfl (fun ls hl => ?_)
        refine lv_goto (tgt := 2) hx hb dX7_isSound_28 (by decide) ?_
        exact ih2 (i + 1) H locs ls (by omega) (by omega)  hP hS hk0 (by have h9 := lv_sub hl [1, 0] rfl; exact h9)
  exact loop2 (4) 0 s.heap [] ls (by omega) (by omega)  hP hS hk0 (lv_sub hl [1, 0] rfl)

set_option maxHeartbeats 4000000 in
set_option maxRecDepth 100000 in
/-- X7_tandemVerdict -/
theorem c_X7_tandemVerdict (l : Launch) (D : va_G) (cy : Nat → ClassId) (a q : Nat → Nat) (σ : Nat → Nat → Int) (sz : Nat) (i : Nat) (hi : i < 3) (l1 : Int) (hl1 : rg l1) (k : Nat) (hk : k < 3) (l2 : Int) (hl2 : rg l2) (hi5 : (i : Int) < σ 0 5) (hk5 : (k : Int) < σ 0 5) (t0 : Int) (wi : Int) (hO : okA t0 wi q σ) : Met l yX7_tandemVerdict wsX7_tandemVerdict ({ frames := 9, cells := 0, slots := 0, locals := 300 }) (va_Pc [.ref (a 0), .ref (a (3 + i)), .int (zI (l1)), .ref (a (3 + k)), .int (zI (l2))] (fun U => U.heap.size = sz ∧ Wd D cy a q σ U)) (va_Qi (fun (r : Int32) (_ : Unit) => ∃ z : Int, r = zI z ∧ ((z = 0 ∧ σ (3 + i) 10 < 80 ∧ σ (3 + k) 10 < 80) ∨ (1 ≤ z ∧ z ≤ 3))) (fun _ _ => True) (fun _ => False)) 0 0 (wF a sz) := by
  refine Met.ofW (cc := cX7_tandemVerdict) (maxL := 6) (ret := (some .int)) (by decide) rfl ?_
  intro p e s m args below meth c s₁ B hml hpc0
  obtain ⟨rfl, hsz, hW0⟩ := hpc0
  have hx := B.exec
  have hb := B.bytes
  have hr := B.returns
  have hts := atoms_spec (ws := wsX7_tandemVerdict) B.pre
  have hown : s.vm.findClass RX7 = some m.cls := findClass_of_methodNamed B.named
  have hlocks := B.notSynchronized
  subst hsz
  obtain ⟨hP00, hE0⟩ := id hW0
  obtain ⟨hK, hinj, hU0, hN0, hstr, hnest⟩ := id hE0
  have hP : va_P D vwCl (wld cy a q σ ++ []) s.heap := by rw [List.append_nil]; exact hP00
  have hD : va_D (wF a s.heap.size) (wld cy a q σ ++ []) := wD_of hinj
  have hA : ∀ x : Nat, s.heap.size ≤ x → wF a s.heap.size x := fun _ h => Or.inr h
  have hS : va_S (wF a s.heap.size) s.heap s.heap [] := va_S.rf
  have hk0 : ∀ x : Nat, x < s.heap.size → s.heap[x]? = s.heap[x]? := fun _ _ => rfl
  have hl := lv_entry ([.ref (a 0), .ref (a (3 + i)), .int (zI (l1)), .ref (a (3 + k)), .int (zI (l2))]) (n := 6) (Nat.le_of_ble_eq_true rfl)
  rw [lg_entry_eq]
  generalize (lg_sl ([.ref (a 0), .ref (a (3 + i)), .int (zI (l1)), .ref (a (3 + k)), .int (zI (l2))]) ++ List.replicate (6 - (lg_sl ([.ref (a 0), .ref (a (3 + i)), .int (zI (l1)), .ref (a (3 + k)), .int (zI (l2))])).length) Slot.unset).toArray = ls at hl ⊢
  have hl : lv_has ls 6 [(0, .ref (a 0)), (1, .ref (a (3 + i))), (2, .int (zI (l1))), (3, .ref (a (3 + k))), (4, .int (zI (l2)))] := hl
  have k10 := hts (.fieldLink RX7 10 "Slewfree" "weather" "LSlewfree$Weather;") (by decide +kernel)
  have k72 := hts (.fieldLink RX7 72 "Slewfree$Crane" "radius" "I") (by decide +kernel)
  have k79 := hts (.fieldLink RX7 79 "Slewfree$Crane" "isLocked" "Z") (by decide +kernel)
  have k104 := hts (.fieldLink RX7 104 "Slewfree$Weather" "wind" "I") (by decide +kernel)
  have inX0 : ∀ w ∈ u_ws RX0 TX0 12, w ∈ wsX7_tandemVerdict := by decide +kernel
  have inX5 : ∀ w ∈ u_ws RX5 TX5 7, w ∈ wsX7_tandemVerdict := by decide +kernel
  have inX7 : ∀ w ∈ u_ws RX7 TX7 9, w ∈ wsX7_tandemVerdict := by decide +kernel
  obtain ⟨oS, oW, oC, oZ, oM, oL, oP, oQ, oH⟩ := id hO
  unfold okS at oS; unfold okW at oW; unfold okL at oL
  have oC_i := oC i (by omega); unfold okC at oC_i
  have oC_k := oC k (by omega); unfold okC at oC_k
  have cb1 := cpF_b oC_i.2.2.2.2.1 (σ (3 + i) 4) (σ 1 5) (by omega) (by omega)
  have cb2 := cpF_b oC_k.2.2.2.2.1 (σ (3 + k) 4) (σ 1 5) (by omega) (by omega)
  refine lv_aload_n hx hb dX7_tandemVerdict_0 rfl (lv_at hl 1 rfl) ?_
  refine va_get (D := D) (ci := 2) (v := .int (zI (σ (3 + i) 5))) (C := RX0) (T := TX0) (N := 12) hx hb hts inX0 hown hK hP (3 + i) (wg_C (i := i) (by first | assumption | omega)) rfl 5 (by decide) k79 (fun _ h9 => h9) rfl dX7_tandemVerdict_1 ?_
  refine z_if_eq (tgt := 14) hx hb dX7_tandemVerdict_4 (by decide) (by omega) (fun cd4 => ?_) (fun cd4 => ?_)
  · skip
    refine lv_iconst (v := zI 1) hx hb dX7_tandemVerdict_14 rfl ?_
    exact W.iret (v := zI (1)) hx hb hr (fun t9 ht hW => ⟨⟨_, (), rfl, ⟨_, rfl, (by omega)⟩, trivial⟩, vF_R ht hS.1 hk0⟩) hS.2.2 dX7_tandemVerdict_15
  · skip
    refine lv_aload_n hx hb dX7_tandemVerdict_7 rfl (lv_at hl 3 rfl) ?_
    refine va_get (D := D) (ci := 2) (v := .int (zI (σ (3 + k) 5))) (C := RX0) (T := TX0) (N := 12) hx hb hts inX0 hown hK hP (3 + k) (wg_C (i := k) (by first | assumption | omega)) rfl 5 (by decide) k79 (fun _ h9 => h9) rfl dX7_tandemVerdict_8 ?_
    refine z_if_ne (tgt := 16) hx hb dX7_tandemVerdict_11 (by decide) (by omega) (fun cd11 => ?_) (fun cd11 => ?_)
    · skip
      refine lv_aload_n hx hb dX7_tandemVerdict_16 rfl (lv_at hl 1 rfl) ?_
      refine va_calli (va_runV (As := []) (rest := []) ⟨hx, hb, hml, hown, hts⟩ (c_X0_isWorn l D cy a q σ s.heap.size i (by first | assumption | omega) (by first | assumption | omega)) (cwV 0 hts gX7_tandemVerdict_X0_isWorn rfl rfl rfl (by decide +kernel) ⟨Nat.le_of_ble_eq_true rfl, Nat.le_of_ble_eq_true rfl⟩) ⟨Wd_blind, va_recv hK hP (ci := 2) (q0 := (3 + i)) rfl (wg_C (i := i) (by first | assumption | omega)), fun U hU hW => ⟨rfl, by rw [hU], Wd_mk (wP_left hP) hE0 hS hU hW⟩⟩ rfl rfl hl.1 rfl (lv_room (Nat.le_of_ble_eq_true rfl)) dX7_tandemVerdict_17 ⟨(show 0 + 0 ≤ 0 by omega), (show 0 + 0 ≤ 0 by omega)⟩) hS (fun _ _ h => h.elim) (fun _ h => wF_mono hS.1 _ h) (fun rv17 u9 t9 H locs ht hvm hw hB hz hk hS1 => ?_)
      have hP := hP.kept (fun k x hk9 => hk x.1 ((hP k x hk9).lt) (fun h => h))
      have hk0 : ∀ x : Nat, x < s.heap.size → H[x]? = s.heap[x]? := fun x h9 => (hk x (Nat.lt_of_lt_of_le h9 hS.1) (fun h => h)).trans (hk0 x h9)
      have hS := hS1
      rcases hw with ⟨rfl, bd17⟩ | ⟨rfl, bd17⟩
      · skip
        refine z_if_ne (tgt := 30) hx hb dX7_tandemVerdict_20 (by decide) (by decide) (fun _ => ?_) (fun cd20 => absurd cd20 (by decide))
        refine lv_iconst (v := zI 2) hx hb dX7_tandemVerdict_30 rfl ?_
        refine W.widen (k := 0) (n := 0) (by omega) (by omega) ?_
        exact W.iret (v := zI (2)) hx hb hr (fun t9 ht hW => ⟨⟨_, (), rfl, ⟨_, rfl, (by omega)⟩, trivial⟩, vF_R ht hS.1 hk0⟩) hS.2.2 dX7_tandemVerdict_31
      · skip
        refine z_if_ne (tgt := 30) hx hb dX7_tandemVerdict_20 (by decide) (by decide) (fun cd20 => absurd cd20 (by decide)) (fun _ => ?_)
        refine lv_aload_n hx hb dX7_tandemVerdict_23 rfl (lv_at hl 3 rfl) ?_
        refine va_calli (va_runV (As := []) (rest := []) ⟨hx, hb, hml, hown, hts⟩ (c_X0_isWorn l D cy a q σ H.size k (by first | assumption | omega) (by first | assumption | omega)) (cwV 0 hts gX7_tandemVerdict_X0_isWorn rfl rfl rfl (by decide +kernel) ⟨Nat.le_of_ble_eq_true rfl, Nat.le_of_ble_eq_true rfl⟩) ⟨Wd_blind, va_recv hK hP (ci := 2) (q0 := (3 + k)) rfl (wg_C (i := k) (by first | assumption | omega)), fun U hU hW => ⟨rfl, by rw [hU], Wd_mk (wP_left hP) hE0 hS hU hW⟩⟩ rfl rfl hl.1 rfl (lv_room (Nat.le_of_ble_eq_true rfl)) dX7_tandemVerdict_24 ⟨(show 0 + 0 + 0 ≤ 0 by omega), (show 0 + 0 + 0 ≤ 0 by omega)⟩) hS (fun _ _ h => h.elim) (fun _ h => wF_mono hS.1 _ h) (fun rv24 u9 t9 H locs ht hvm hw hB hz hk hS1 => ?_)
        have hP := hP.kept (fun k x hk9 => hk x.1 ((hP k x hk9).lt) (fun h => h))
        have hk0 : ∀ x : Nat, x < s.heap.size → H[x]? = s.heap[x]? := fun x h9 => (hk x (Nat.lt_of_lt_of_le h9 hS.1) (fun h => h)).trans (hk0 x h9)
        have hS := hS1
        rcases hw with ⟨rfl, bd24⟩ | ⟨rfl, bd24⟩
        · skip
          refine z_if_eq (tgt := 32) hx hb dX7_tandemVerdict_27 (by decide) (by decide) (fun cd27 => absurd cd27 (by decide)) (fun _ => ?_)
          refine lv_iconst (v := zI 2) hx hb dX7_tandemVerdict_30 rfl ?_
          refine W.widen (k := 0) (n := 0) (by omega) (by omega) ?_
          exact W.iret (v := zI (2)) hx hb hr (fun t9 ht hW => ⟨⟨_, (), rfl, ⟨_, rfl, (by omega)⟩, trivial⟩, vF_R ht hS.1 hk0⟩) hS.2.2 dX7_tandemVerdict_31
        · skip
          refine z_if_eq (tgt := 32) hx hb dX7_tandemVerdict_27 (by decide) (by decide) (fun _ => ?_) (fun cd27 => absurd cd27 (by decide))
          refine lv_iload_n hx hb dX7_tandemVerdict_32 rfl (lv_at hl 2 rfl) ?_
          refine lv_aload_n hx hb dX7_tandemVerdict_33 rfl (lv_at hl 1 rfl) ?_
          refine lv_aload_n hx hb dX7_tandemVerdict_34 rfl (lv_at hl 1 rfl) ?_
          refine va_get (D := D) (ci := 2) (v := .int (zI (σ (3 + i) 4))) (C := RX0) (T := TX0) (N := 12) hx hb hts inX0 hown hK hP (3 + i) (wg_C (i := i) (by first | assumption | omega)) rfl 4 (by decide) k72 (fun _ h9 => h9) rfl dX7_tandemVerdict_35 ?_
          refine lv_aload_n hx hb dX7_tandemVerdict_38 rfl (lv_at hl 0 rfl) ?_
          refine va_get (D := D) (ci := 9) (v := .ref (a 1)) (C := RX7) (T := TX7) (N := 9) hx hb hts inX7 hown hK hP 0 wg_S rfl 0 (by decide) k10 (fun _ h9 => h9) rfl dX7_tandemVerdict_39 ?_
          refine va_get (D := D) (ci := 7) (v := .int (zI (σ 1 5))) (C := RX5) (T := TX5) (N := 7) hx hb hts inX5 hown hK hP 1 wg_W rfl 5 (by decide) k104 (fun _ h9 => h9) rfl dX7_tandemVerdict_42 ?_
          refine va_calli (va_runV (As := [.int (zI (σ (3 + i) 4)), .int (zI (σ 1 5))]) (rest := [.int (zI (l1))]) ⟨hx, hb, hml, hown, hts⟩ (c_X0_capacityAt l D cy a q σ H.size i (by first | assumption | omega) (σ (3 + i) 4) (by omega) (σ 1 5) (by omega) (by first | assumption | omega) (by first | assumption | omega) (by first | assumption | omega) (by first | assumption | omega)) (cwV 2 hts gX7_tandemVerdict_X0_capacityAt rfl rfl rfl (by decide +kernel) ⟨Nat.le_of_ble_eq_true rfl, Nat.le_of_ble_eq_true rfl⟩) ⟨Wd_blind, va_recv hK hP (ci := 2) (q0 := (3 + i)) rfl (wg_C (i := i) (by first | assumption | omega)), fun U hU hW => ⟨rfl, by rw [hU], Wd_mk (wP_left hP) hE0 hS hU hW⟩⟩ rfl rfl hl.1 rfl (lv_room (Nat.le_of_ble_eq_true rfl)) dX7_tandemVerdict_45 ⟨(show 0 + 0 + 0 + 0 ≤ 0 by omega), (show 0 + 0 + 0 + 0 ≤ 0 by omega)⟩) hS (fun _ _ h => h.elim) (fun _ h => wF_mono hS.1 _ h) (fun rv45 u9 t9 H locs ht hvm hw hB hz hk hS1 => ?_)
          have hP := hP.kept (fun k x hk9 => hk x.1 ((hP k x hk9).lt) (fun h => h))
          have hk0 : ∀ x : Nat, x < s.heap.size → H[x]? = s.heap[x]? := fun x h9 => (hk x (Nat.lt_of_lt_of_le h9 hS.1) (fun h => h)).trans (hk0 x h9)
          have hS := hS1
          obtain rfl := hw
          refine z_icmp_gt (tgt := 71) hx hb dX7_tandemVerdict_48 (by decide) (by omega) (by omega) (fun cd48 => ?_) (fun cd48 => ?_)
          · skip
            refine lv_iconst (v := zI 1) hx hb dX7_tandemVerdict_71 rfl ?_
            refine lv_goto (tgt := 76) hx hb dX7_tandemVerdict_72 (by decide) ?_
            refine lv_istore (lv' := [(5, .int (zI (1))), (0, .ref (a 0)), (1, .ref (a (3 + i))), (2, .int (zI (l1))), (3, .ref (a (3 + k))), (4, .int (zI (l2)))]) hx hb dX7_tandemVerdict_76 hl (by decide) rfl (fun ls hl => ?_)
            refine lv_iload hx hb dX7_tandemVerdict_78 (lv_at hl 0 rfl) ?_
            refine z_if_eq (tgt := 87) hx hb dX7_tandemVerdict_80 (by decide) (by decide) (fun cd80 => absurd cd80 (by decide)) (fun _ => ?_)
            refine lv_iconst (v := zI 3) hx hb dX7_tandemVerdict_83 rfl ?_
            refine lv_goto (tgt := 88) hx hb dX7_tandemVerdict_84 (by decide) ?_
            refine W.widen (k := 0) (n := 0) (by omega) (by omega) ?_
            exact W.iret (v := zI (3)) hx hb hr (fun t9 ht hW => ⟨⟨_, (), rfl, ⟨_, rfl, (by omega)⟩, trivial⟩, vF_R ht hS.1 hk0⟩) hS.2.2 dX7_tandemVerdict_88
          · skip
            refine lv_iload hx hb dX7_tandemVerdict_51 (lv_at hl 4 rfl) ?_
            refine lv_aload_n hx hb dX7_tandemVerdict_53 rfl (lv_at hl 3 rfl) ?_
            refine lv_aload_n hx hb dX7_tandemVerdict_54 rfl (lv_at hl 3 rfl) ?_
            refine va_get (D := D) (ci := 2) (v := .int (zI (σ (3 + k) 4))) (C := RX0) (T := TX0) (N := 12) hx hb hts inX0 hown hK hP (3 + k) (wg_C (i := k) (by first | assumption | omega)) rfl 4 (by decide) k72 (fun _ h9 => h9) rfl dX7_tandemVerdict_55 ?_
            refine lv_aload_n hx hb dX7_tandemVerdict_58 rfl (lv_at hl 0 rfl) ?_
            refine va_get (D := D) (ci := 9) (v := .ref (a 1)) (C := RX7) (T := TX7) (N := 9) hx hb hts inX7 hown hK hP 0 wg_S rfl 0 (by decide) k10 (fun _ h9 => h9) rfl dX7_tandemVerdict_59 ?_
            refine va_get (D := D) (ci := 7) (v := .int (zI (σ 1 5))) (C := RX5) (T := TX5) (N := 7) hx hb hts inX5 hown hK hP 1 wg_W rfl 5 (by decide) k104 (fun _ h9 => h9) rfl dX7_tandemVerdict_62 ?_
            refine va_calli (va_runV (As := [.int (zI (σ (3 + k) 4)), .int (zI (σ 1 5))]) (rest := [.int (zI (l2))]) ⟨hx, hb, hml, hown, hts⟩ (c_X0_capacityAt l D cy a q σ H.size k (by first | assumption | omega) (σ (3 + k) 4) (by omega) (σ 1 5) (by omega) (by first | assumption | omega) (by first | assumption | omega) (by first | assumption | omega) (by first | assumption | omega)) (cwV 2 hts gX7_tandemVerdict_X0_capacityAt rfl rfl rfl (by decide +kernel) ⟨Nat.le_of_ble_eq_true rfl, Nat.le_of_ble_eq_true rfl⟩) ⟨Wd_blind, va_recv hK hP (ci := 2) (q0 := (3 + k)) rfl (wg_C (i := k) (by first | assumption | omega)), fun U hU hW => ⟨rfl, by rw [hU], Wd_mk (wP_left hP) hE0 hS hU hW⟩⟩ rfl rfl hl.1 rfl (lv_room (Nat.le_of_ble_eq_true rfl)) dX7_tandemVerdict_65 ⟨(show 0 + 0 + 0 + 0 + 0 ≤ 0 by omega), (show 0 + 0 + 0 + 0 + 0 ≤ 0 by omega)⟩) hS (fun _ _ h => h.elim) (fun _ h => wF_mono hS.1 _ h) (fun rv65 u9 t9 H locs ht hvm hw hB hz hk hS1 => ?_)
            have hP := hP.kept (fun k x hk9 => hk x.1 ((hP k x hk9).lt) (fun h => h))
            have hk0 : ∀ x : Nat, x < s.heap.size → H[x]? = s.heap[x]? := fun x h9 => (hk x (Nat.lt_of_lt_of_le h9 hS.1) (fun h => h)).trans (hk0 x h9)
            have hS := hS1
            obtain rfl := hw
            refine z_icmp_le (tgt := 75) hx hb dX7_tandemVerdict_68 (by decide) (by omega) (by omega) (fun cd68 => ?_) (fun cd68 => ?_)
            · skip
              refine lv_iconst (v := zI 0) hx hb dX7_tandemVerdict_75 rfl ?_
              refine lv_istore (lv' := [(5, .int (zI (0))), (0, .ref (a 0)), (1, .ref (a (3 + i))), (2, .int (zI (l1))), (3, .ref (a (3 + k))), (4, .int (zI (l2)))]) hx hb dX7_tandemVerdict_76 hl (by decide) rfl (fun ls hl => ?_)
              refine lv_iload hx hb dX7_tandemVerdict_78 (lv_at hl 0 rfl) ?_
              refine z_if_eq (tgt := 87) hx hb dX7_tandemVerdict_80 (by decide) (by decide) (fun _ => ?_) (fun cd80 => absurd cd80 (by decide))
              refine lv_iconst (v := zI 0) hx hb dX7_tandemVerdict_87 rfl ?_
              refine W.widen (k := 0) (n := 0) (by omega) (by omega) ?_
              exact W.iret (v := zI (0)) hx hb hr (fun t9 ht hW => ⟨⟨_, (), rfl, ⟨_, rfl, (by omega)⟩, trivial⟩, vF_R ht hS.1 hk0⟩) hS.2.2 dX7_tandemVerdict_88
            · skip
              refine lv_iconst (v := zI 1) hx hb dX7_tandemVerdict_71 rfl ?_
              refine lv_goto (tgt := 76) hx hb dX7_tandemVerdict_72 (by decide) ?_
              refine lv_istore (lv' := [(5, .int (zI (1))), (0, .ref (a 0)), (1, .ref (a (3 + i))), (2, .int (zI (l1))), (3, .ref (a (3 + k))), (4, .int (zI (l2)))]) hx hb dX7_tandemVerdict_76 hl (by decide) rfl (fun ls hl => ?_)
              refine lv_iload hx hb dX7_tandemVerdict_78 (lv_at hl 0 rfl) ?_
              refine z_if_eq (tgt := 87) hx hb dX7_tandemVerdict_80 (by decide) (by decide) (fun cd80 => absurd cd80 (by decide)) (fun _ => ?_)
              refine lv_iconst (v := zI 3) hx hb dX7_tandemVerdict_83 rfl ?_
              refine lv_goto (tgt := 88) hx hb dX7_tandemVerdict_84 (by decide) ?_
              refine W.widen (k := 0) (n := 0) (by omega) (by omega) ?_
              exact W.iret (v := zI (3)) hx hb hr (fun t9 ht hW => ⟨⟨_, (), rfl, ⟨_, rfl, (by omega)⟩, trivial⟩, vF_R ht hS.1 hk0⟩) hS.2.2 dX7_tandemVerdict_88
    · skip
      refine lv_iconst (v := zI 1) hx hb dX7_tandemVerdict_14 rfl ?_
      exact W.iret (v := zI (1)) hx hb hr (fun t9 ht hW => ⟨⟨_, (), rfl, ⟨_, rfl, (by omega)⟩, trivial⟩, vF_R ht hS.1 hk0⟩) hS.2.2 dX7_tandemVerdict_15
