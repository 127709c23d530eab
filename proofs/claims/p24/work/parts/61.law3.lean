/-! ISDONE: a call, and its exceptions caught -/
def wDn (U : State) : Prop := va_Nw (.classLink RL 84 "java/lang/IllegalArgumentException") U ∧ va_Nw (.classLink RL 86 "java/lang/IllegalStateException") U ∧ va_Nc "java/lang/IllegalArgumentException" "java/lang/IndexOutOfBoundsException" U ∧ va_Nc "java/lang/IllegalStateException" "java/lang/IndexOutOfBoundsException" U ∧ va_Nc "java/lang/IllegalStateException" "java/lang/IllegalArgumentException" U
set_option maxHeartbeats 4000000 in
set_option maxRecDepth 100000 in
/-- L_isDone -/
theorem c_L_isDone (l : Launch) (hlT : l.stackTraces = false) (D : va_G) (cy : Nat → ClassId) (a q : Nat → Nat) (σ : Nat → Nat → Int) (sz : Nat) (v : Int) (hv : rg v) (kd : Int) (hkd : rg kd) (t0 : Int) (hO : okA t0 (σ 1 5) q σ) (ht9 : t0 < 1000000) : vx_Met l yL_isDone wsL_isDone ({ frames := 16, cells := 80, slots := 480, locals := 1000 }) (va_Pc [.ref (a 0), .int (zI (v)), .int (zI (kd))] (fun U => U.heap.size = sz ∧ Wd D cy a q σ U ∧ wDn U)) (va_Qi (fun (r : Int32) (u : ((Nat → Nat) × (Nat → Nat → Int))) => ∃ z : Int, r = zI z ∧ (z = 1 ∧ okA (t0 + 1) (u.2 1 5) u.1 u.2 ∧ Ev σ u.2)) (fun (u : ((Nat → Nat) × (Nat → Nat → Int))) t => Wd D cy a u.1 u.2 t) (wF a sz)) (vx_X (fun (_ : Unit) => False) (fun E _ _ => okE E) (fun _ => False)) 80 480 (wF a sz) := by
  refine vx_ofWH (cc := cL_isDone) (maxL := 5) (ret := (some .boolean)) (by decide) rfl ?_
  intro p e s m args below meth c s₁ B hml hpc0
  obtain ⟨rfl, hsz, hW0, hnc⟩ := hpc0
  have hx := B.exec
  have hb := B.bytes
  have hr := B.returns
  have hts := atoms_spec (ws := wsL_isDone) B.pre
  have hown : s.vm.findClass RL = some m.cls := findClass_of_methodNamed B.named
  have hlocks := B.notSynchronized
  subst hsz
  obtain ⟨hP00, hE0⟩ := id hW0
  obtain ⟨hK, hinj, hU0, hN0, hstr, hnest⟩ := id hE0
  have hP : va_P D vwCl (wld cy a q σ ++ []) s.heap := by rw [List.append_nil]; exact hP00
  have hD : va_D (wF a s.heap.size) (wld cy a q σ ++ []) := wD_of hinj
  have hA : ∀ x : Nat, s.heap.size ≤ x → wF a s.heap.size x := fun _ h => Or.inr h
  have hS : va_S (wF a s.heap.size) s.heap s.heap [] := va_S.rf
  have hk0 : ∀ x : Nat, x < s.heap.size → s.heap[x]? = s.heap[x]? := fun _ _ => rfl
  have hl := lv_entry ([.ref (a 0), .int (zI (v)), .int (zI (kd))]) (n := 5) (Nat.le_of_ble_eq_true rfl)
  rw [lg_entry_eq]
  generalize (lg_sl ([.ref (a 0), .int (zI (v)), .int (zI (kd))]) ++ List.replicate (5 - (lg_sl ([.ref (a 0), .int (zI (v)), .int (zI (kd))])).length) Slot.unset).toArray = ls at hl ⊢
  have hl : lv_has ls 5 [(0, .ref (a 0)), (1, .int (zI (v))), (2, .int (zI (kd)))] := hl
  obtain ⟨oS, oW, oC, oZ, oM, oL, oP, oQ, oH⟩ := id hO
  unfold okS at oS
  have hs2 := shI_rg v 2
  have hs3 := shI_rg v 3
  have hs4 := shI_rg v 4
  have hs5 := shI_rg v 5
  have hs6 := shI_rg v 6
  have hs7 := shI_rg v 7
  have htab9 : c.exceptionTable.toList = [⟨15, 397, 401, 82⟩, ⟨15, 397, 405, 84⟩, ⟨15, 397, 409, 86⟩] := (vx_table (x := yL_isDone) B (hts _ List.mem_cons_self)).trans rfl
  refine lv_iload_n hx hb dL_isDone_0 rfl (lv_at hl 1 rfl) ?_
  refine lv_iconst (v := zI 4) hx hb dL_isDone_1 rfl ?_
  refine va_calli (va_runS (As := [.int (zI (v)), .int (zI (4))]) (rest := []) ⟨hx, hb, hml, hown, hts⟩ (c_L_below l (v) (by omega) (4) (by omega) (by first | assumption | omega)) (va_cwS 2 hts gL_isDone_L_below rfl rfl rfl (by decide +kernel) ⟨Nat.le_of_ble_eq_true rfl, Nat.le_of_ble_eq_true rfl⟩) ⟨fun _ _ _ _ h => h, fun _ _ _ => ⟨rfl, trivial⟩⟩ rfl rfl hl.1 rfl (lv_room (Nat.le_of_ble_eq_true rfl)) dL_isDone_2 ⟨(show 0 + 0 ≤ 80 by omega), (show 0 + 0 ≤ 480 by omega)⟩) hS (fun _ _ h => h.elim) (fun _ h => h.elim) (fun rv2 u9 t9 H locs ht hvm hw hB hz hk hS1 => ?_)
  have hP := hP.kept (fun k x hk9 => hk x.1 ((hP k x hk9).lt) (fun h => h))
  have hk0 : ∀ x : Nat, x < s.heap.size → H[x]? = s.heap[x]? := fun x h9 => (hk x (Nat.lt_of_lt_of_le h9 hS.1) (fun h => h)).trans (hk0 x h9)
  have hS := hS1
  obtain rfl := hw
  refine lv_iload_n hx hb dL_isDone_5 rfl (lv_at hl 1 rfl) ?_
  refine lv_bipush (v := zI 7) hx hb dL_isDone_6 (by decide +kernel) ?_
  refine z_ishr hx hb dL_isDone_8 ?_
  refine lv_iconst (v := zI 2) hx hb dL_isDone_9 rfl ?_
  refine va_calli (va_runS (As := [.int (zI (shI v 7)), .int (zI (2))]) (rest := [.int (zI (v % 2147483648 % (4 : Int)))]) ⟨hx, hb, hml, hown, hts⟩ (c_L_below l (shI v 7) (by omega) (2) (by omega) (by first | assumption | omega)) (va_cwS 2 hts gL_isDone_L_below rfl rfl rfl (by decide +kernel) ⟨Nat.le_of_ble_eq_true rfl, Nat.le_of_ble_eq_true rfl⟩) ⟨fun _ _ _ _ h => h, fun _ _ _ => ⟨rfl, trivial⟩⟩ rfl rfl hl.1 rfl (lv_room (Nat.le_of_ble_eq_true rfl)) dL_isDone_10 ⟨(show 0 + 0 + 0 ≤ 80 by omega), (show 0 + 0 + 0 ≤ 480 by omega)⟩) hS (fun _ _ h => h.elim) (fun _ h => h.elim) (fun rv10 u9 t9 H locs ht hvm hw hB hz hk hS1 => ?_)
  have hP := hP.kept (fun k x hk9 => hk x.1 ((hP k x hk9).lt) (fun h => h))
  have hk0 : ∀ x : Nat, x < s.heap.size → H[x]? = s.heap[x]? := fun x h9 => (hk x (Nat.lt_of_lt_of_le h9 hS.1) (fun h => h)).trans (hk0 x h9)
  have hS := hS1
  obtain rfl := hw
  refine z_isub hx hb dL_isDone_13 ?_
  refine lv_istore_n (lv' := [(3, .int (zI ((v % 2147483648 % (4 : Int)) - ((shI v 7) % 2147483648 % (2 : Int))))), (0, .ref (a 0)), (1, .int (zI (v))), (2, .int (zI (kd)))]) hx hb dL_isDone_14 rfl hl (by decide) rfl (fun ls hl => ?_)
  refine lv_iload_n hx hb dL_isDone_15 rfl (lv_at hl 3 rfl) ?_
  have hx16 : (zI (kd)).toInt = kd := zI_toInt (by omega)
  by_cases cd16 : kd < 0 ∨ 10 < kd
  · refine lv_tableOut (tgt := 391) hx hb dL_isDone_16 (by rw [hx16]; exact cd16) (by decide) ?_
    refine lv_aload_n hx hb dL_isDone_391 rfl (lv_at hl 1 rfl) ?_
    refine lv_iload_n hx hb dL_isDone_392 rfl (lv_at hl 0 rfl) ?_
    refine lv_iload_n hx hb dL_isDone_393 rfl (lv_at hl 2 rfl) ?_
    refine vx_calli (vx_runS (As := [.ref (a 0), .int (zI ((v % 2147483648 % (4 : Int)) - ((shI v 7) % 2147483648 % (2 : Int)))), .int (zI (v))]) (rest := []) ⟨hx, hb, hml, hown, hts⟩ (c_L_isLifted l hlT D cy a q σ H.size ((v % 2147483648 % (4 : Int)) - ((shI v 7) % 2147483648 % (2 : Int))) (by omega) (v) (by omega) _ hO ht9) (va_cwS 3 hts gL_isDone_L_isLifted rfl rfl rfl (by decide +kernel) ⟨Nat.le_of_ble_eq_true rfl, Nat.le_of_ble_eq_true rfl⟩) ⟨Wd_blind, fun U hU hW => ⟨rfl, by rw [hU], Wd_mk (wP_left hP) hE0 hS hU hW⟩⟩ rfl rfl hl.1 rfl (lv_room (Nat.le_of_ble_eq_true rfl)) dL_isDone_394 ⟨(show 0 + 0 + 0 + 70 ≤ 80 by omega), (show 0 + 0 + 0 + 420 ≤ 480 by omega)⟩) hS (fun _ _ h => wF_mono hS.1 _ h) (fun _ h => wF_mono hS.1 _ h) (fun _ _ h => h.elim) (fun E9 ce9 q9 u9 t9 H locs ht hvm hpx hE hz hk hS1 hce hcv hcl => ?_) (fun rv394 u9 t9 H locs ht hvm hw hB hz hk hS1 => ?_)
    · skip
      have hP := hP.kept (fun k x hk9 => hk x.1 ((hP k x hk9).lt) (fun h => h))
      have hS := hS1
      rcases hE with rfl | rfl | rfl
      · refine vx_catch hown (name := "java/lang/IllegalArgumentException") [⟨15, 397, 401, 82⟩] ⟨15, 397, 405, 84⟩ [⟨15, 397, 409, 86⟩] htab9 (fun z hz9 => by
          obtain rfl := List.mem_singleton.mp hz9
          exact Or.inr ⟨by decide, "java/lang/IndexOutOfBoundsException", (hts (.classLink RL 82 "java/lang/IndexOutOfBoundsException") (by decide +kernel)), hnc.2.2.1⟩) rfl (by decide) (va_Nw.use rfl hnc.1) (va_Nw.use rfl hnest.2.2.1.2.2.2) hce hcv hcl ?_
        refine lv_astore (lv' := [(4, .ref (q9)), (3, .int (zI ((v % 2147483648 % (4 : Int)) - ((shI v 7) % 2147483648 % (2 : Int))))), (0, .ref (a 0)), (1, .int (zI (v))), (2, .int (zI (kd)))]) hx hb dL_isDone_405 hl (by decide) rfl (fun ls hl => ?_)
        refine lv_iconst (v := zI 1) hx hb dL_isDone_407 rfl ?_
        refine vx_ret ?_
        refine W.widen (k := 80) (n := 480) (by omega) (by omega) ?_
        exact W.zret (v := zI (1)) (ty := .boolean) hx hb hr (by decide +kernel) (fun t9 ht hW => ⟨⟨_, (q, σ), rfl, ⟨_, rfl, ⟨rfl, okA_mono hO (by omega) (by omega), Ev.rf σ⟩⟩, Wd_mk (wP_left hP) hE0 hS ht hW⟩, hS.F ht⟩) hS.2.2 dL_isDone_408
      · refine vx_catch hown (name := "java/lang/IllegalStateException") [⟨15, 397, 401, 82⟩, ⟨15, 397, 405, 84⟩] ⟨15, 397, 409, 86⟩ [] htab9 (fun z hz9 => by
          rcases List.mem_cons.mp hz9 with rfl | hz9
          · exact Or.inr ⟨by decide, "java/lang/IndexOutOfBoundsException", (hts (.classLink RL 82 "java/lang/IndexOutOfBoundsException") (by decide +kernel)), hnc.2.2.2.1⟩
          · obtain rfl := List.mem_singleton.mp hz9
            exact Or.inr ⟨by decide, "java/lang/IllegalArgumentException", va_Nw.use rfl hnc.1, hnc.2.2.2.2⟩) rfl (by decide) (va_Nw.use rfl hnc.2.1) (va_Nw.use rfl hnest.2.2.2.1.2.2.2) hce hcv hcl ?_
        refine lv_astore (lv' := [(4, .ref (q9)), (3, .int (zI ((v % 2147483648 % (4 : Int)) - ((shI v 7) % 2147483648 % (2 : Int))))), (0, .ref (a 0)), (1, .int (zI (v))), (2, .int (zI (kd)))]) hx hb dL_isDone_409 hl (by decide) rfl (fun ls hl => ?_)
        refine lv_iconst (v := zI 1) hx hb dL_isDone_411 rfl ?_
        refine vx_ret ?_
        refine W.widen (k := 80) (n := 480) (by omega) (by omega) ?_
        exact W.zret (v := zI (1)) (ty := .boolean) hx hb hr (by decide +kernel) (fun t9 ht hW => ⟨⟨_, (q, σ), rfl, ⟨_, rfl, ⟨rfl, okA_mono hO (by omega) (by omega), Ev.rf σ⟩⟩, Wd_mk (wP_left hP) hE0 hS ht hW⟩, hS.F ht⟩) hS.2.2 dL_isDone_412
      · refine vx_catch hown (name := "java/lang/IndexOutOfBoundsException") [] ⟨15, 397, 401, 82⟩ [⟨15, 397, 405, 84⟩, ⟨15, 397, 409, 86⟩] htab9 (fun z hz9 => by cases hz9) rfl (by decide) (hts (.classLink RL 82 "java/lang/IndexOutOfBoundsException") (by decide +kernel)) (va_Nw.use rfl hnest.2.2.2.2.2.2.2) hce hcv hcl ?_
        refine lv_astore (lv' := [(4, .ref (q9)), (3, .int (zI ((v % 2147483648 % (4 : Int)) - ((shI v 7) % 2147483648 % (2 : Int))))), (0, .ref (a 0)), (1, .int (zI (v))), (2, .int (zI (kd)))]) hx hb dL_isDone_401 hl (by decide) rfl (fun ls hl => ?_)
        refine lv_iconst (v := zI 1) hx hb dL_isDone_403 rfl ?_
        refine vx_ret ?_
        refine W.widen (k := 80) (n := 480) (by omega) (by omega) ?_
        exact W.zret (v := zI (1)) (ty := .boolean) hx hb hr (by decide +kernel) (fun t9 ht hW => ⟨⟨_, (q, σ), rfl, ⟨_, rfl, ⟨rfl, okA_mono hO (by omega) (by omega), Ev.rf σ⟩⟩, Wd_mk (wP_left hP) hE0 hS ht hW⟩, hS.F ht⟩) hS.2.2 dL_isDone_404
    · skip
      obtain ⟨qc394, σc394⟩ := u9
      have hB1 : va_P D vwCl (wld cy a qc394 σc394) t9.heap := hB.1
      rw [ht] at hB1
      obtain ⟨hP, hD⟩ := wd_join hP hD hk hB1
      try dsimp only at hw
      have hS := hS1
      obtain ⟨zc394, rfl, hz394⟩ := hw
      refine vx_ret ?_
      refine W.widen (k := 80) (n := 480) (by omega) (by omega) ?_
      exact W.zret (v := zI (zc394)) (ty := .boolean) hx hb hr (by rw [hz394.1]; decide +kernel) (fun t9 ht hW => ⟨⟨_, (qc394, σc394), rfl, ⟨_, rfl, hz394⟩, Wd_mk (wP_left hP) hE0 hS ht hW⟩, hS.F ht⟩) hS.2.2 dL_isDone_397
  · rcases (show kd = 0 ∨ kd = 1 ∨ kd = 2 ∨ kd = 3 ∨ kd = 4 ∨ kd = 5 ∨ kd = 6 ∨ kd = 7 ∨ kd = 8 ∨ kd = 9 ∨ kd = 10 by omega) with cd16 | cd16 | cd16 | cd16 | cd16 | cd16 | cd16 | cd16 | cd16 | cd16 | cd16
    · refine lv_tableIn (off := 60) (tgt := 76) hx hb dL_isDone_16 (by rw [hx16]; omega) (by rw [hx16]; omega) (by rw [hx16, cd16]; rfl) (by decide) ?_
      refine lv_aload_n hx hb dL_isDone_76 rfl (lv_at hl 1 rfl) ?_
      refine lv_bipush (v := zI 9) hx hb dL_isDone_77 (by decide +kernel) ?_
      refine lv_iload_n hx hb dL_isDone_79 rfl (lv_at hl 2 rfl) ?_
      refine lv_iconst (v := zI 2) hx hb dL_isDone_80 rfl ?_
      refine z_ishr hx hb dL_isDone_81 ?_
      refine lv_bipush (v := zI 33) hx hb dL_isDone_82 (by decide +kernel) ?_
      refine va_calli (va_runS (As := [.int (zI (shI v 2)), .int (zI (33))]) (rest := [.int (zI (9)), .ref (a 0)]) ⟨hx, hb, hml, hown, hts⟩ (c_L_below l (shI v 2) (by omega) (33) (by omega) (by first | assumption | omega)) (va_cwS 2 hts gL_isDone_L_below rfl rfl rfl (by decide +kernel) ⟨Nat.le_of_ble_eq_true rfl, Nat.le_of_ble_eq_true rfl⟩) ⟨fun _ _ _ _ h => h, fun _ _ _ => ⟨rfl, trivial⟩⟩ rfl rfl hl.1 rfl (lv_room (Nat.le_of_ble_eq_true rfl)) dL_isDone_84 ⟨(show 0 + 0 + 0 + 0 ≤ 80 by omega), (show 0 + 0 + 0 + 0 ≤ 480 by omega)⟩) hS (fun _ _ h => h.elim) (fun _ h => h.elim) (fun rv84 u9 t9 H locs ht hvm hw hB hz hk hS1 => ?_)
      have hP := hP.kept (fun k x hk9 => hk x.1 ((hP k x hk9).lt) (fun h => h))
      have hk0 : ∀ x : Nat, x < s.heap.size → H[x]? = s.heap[x]? := fun x h9 => (hk x (Nat.lt_of_lt_of_le h9 hS.1) (fun h => h)).trans (hk0 x h9)
      have hS := hS1
      obtain rfl := hw
      refine z_iadd hx hb dL_isDone_87 ?_
      refine lv_iconst (v := zI 2) hx hb dL_isDone_88 rfl ?_
      refine lv_iload_n hx hb dL_isDone_89 rfl (lv_at hl 2 rfl) ?_
      refine lv_iconst (v := zI 3) hx hb dL_isDone_90 rfl ?_
      refine z_ishr hx hb dL_isDone_91 ?_
      refine lv_iconst (v := zI 2) hx hb dL_isDone_92 rfl ?_
      refine va_calli (va_runS (As := [.int (zI (shI v 3)), .int (zI (2))]) (rest := [.int (zI (2)), .int (zI (9 + ((shI v 2) % 2147483648 % (33 : Int)))), .ref (a 0)]) ⟨hx, hb, hml, hown, hts⟩ (c_L_below l (shI v 3) (by omega) (2) (by omega) (by first | assumption | omega)) (va_cwS 2 hts gL_isDone_L_below rfl rfl rfl (by decide +kernel) ⟨Nat.le_of_ble_eq_true rfl, Nat.le_of_ble_eq_true rfl⟩) ⟨fun _ _ _ _ h => h, fun _ _ _ => ⟨rfl, trivial⟩⟩ rfl rfl hl.1 rfl (lv_room (Nat.le_of_ble_eq_true rfl)) dL_isDone_93 ⟨(show 0 + 0 + 0 + 0 + 0 ≤ 80 by omega), (show 0 + 0 + 0 + 0 + 0 ≤ 480 by omega)⟩) hS (fun _ _ h => h.elim) (fun _ h => h.elim) (fun rv93 u9 t9 H locs ht hvm hw hB hz hk hS1 => ?_)
      have hP := hP.kept (fun k x hk9 => hk x.1 ((hP k x hk9).lt) (fun h => h))
      have hk0 : ∀ x : Nat, x < s.heap.size → H[x]? = s.heap[x]? := fun x h9 => (hk x (Nat.lt_of_lt_of_le h9 hS.1) (fun h => h)).trans (hk0 x h9)
      have hS := hS1
      obtain rfl := hw
      refine lv_iconst (v := zI 2) hx hb dL_isDone_96 rfl ?_
      refine z_imul hx hb dL_isDone_97 ?_
      refine z_iadd hx hb dL_isDone_98 ?_
      refine vx_calli (vx_runV (As := [.int (zI (9 + ((shI v 2) % 2147483648 % (33 : Int)))), .int (zI (2 + (((shI v 3) % 2147483648 % (2 : Int)) * 2)))]) (rest := []) ⟨hx, hb, hml, hown, hts⟩ (c_X7_crane l hlT D cy a q σ H.size (9 + ((shI v 2) % 2147483648 % (33 : Int))) (by omega) (2 + (((shI v 3) % 2147483648 % (2 : Int)) * 2)) (by omega) _ hO (by first | assumption | omega)) (cwV 2 hts gL_isDone_X7_crane rfl rfl rfl (by decide +kernel) ⟨Nat.le_of_ble_eq_true rfl, Nat.le_of_ble_eq_true rfl⟩) ⟨Wd_blind, va_recv hK hP (ci := 9) (q0 := 0) rfl wg_S, fun U hU hW => ⟨rfl, by rw [hU], Wd_mk (wP_left hP) hE0 hS hU hW⟩⟩ rfl rfl hl.1 rfl (lv_room (Nat.le_of_ble_eq_true rfl)) dL_isDone_99 ⟨(show 0 + 0 + 0 + 0 + 0 + 1 ≤ 80 by omega), (show 0 + 0 + 0 + 0 + 0 + 6 ≤ 480 by omega)⟩) hS (fun _ _ h => wF_mono hS.1 _ h) (fun _ h => wF_mono hS.1 _ h) (fun _ _ h => h.elim) (fun E9 ce9 q9 u9 t9 H locs ht hvm hpx hE hz hk hS1 hce hcv hcl => ?_) (fun rv99 u9 t9 H locs ht hvm hw hB hz hk hS1 => ?_)
      · skip
        have hP := hP.kept (fun k x hk9 => hk x.1 ((hP k x hk9).lt) (fun h => h))
        have hS := hS1
        rcases hE with rfl | rfl | rfl
        · refine vx_catch hown (name := "java/lang/IllegalArgumentException") [⟨15, 397, 401, 82⟩] ⟨15, 397, 405, 84⟩ [⟨15, 397, 409, 86⟩] htab9 (fun z hz9 => by
            obtain rfl := List.mem_singleton.mp hz9
            exact Or.inr ⟨by decide, "java/lang/IndexOutOfBoundsException", (hts (.classLink RL 82 "java/lang/IndexOutOfBoundsException") (by decide +kernel)), hnc.2.2.1⟩) rfl (by decide) (va_Nw.use rfl hnc.1) (va_Nw.use rfl hnest.2.2.1.2.2.2) hce hcv hcl ?_
          refine lv_astore (lv' := [(4, .ref (q9)), (3, .int (zI ((v % 2147483648 % (4 : Int)) - ((shI v 7) % 2147483648 % (2 : Int))))), (0, .ref (a 0)), (1, .int (zI (v))), (2, .int (zI (kd)))]) hx hb dL_isDone_405 hl (by decide) rfl (fun ls hl => ?_)
          refine lv_iconst (v := zI 1) hx hb dL_isDone_407 rfl ?_
          refine vx_ret ?_
          refine W.widen (k := 80) (n := 480) (by omega) (by omega) ?_
          exact W.zret (v := zI (1)) (ty := .boolean) hx hb hr (by decide +kernel) (fun t9 ht hW => ⟨⟨_, (q, σ), rfl, ⟨_, rfl, ⟨rfl, okA_mono hO (by omega) (by omega), Ev.rf σ⟩⟩, Wd_mk (wP_left hP) hE0 hS ht hW⟩, hS.F ht⟩) hS.2.2 dL_isDone_408
        · refine vx_catch hown (name := "java/lang/IllegalStateException") [⟨15, 397, 401, 82⟩, ⟨15, 397, 405, 84⟩] ⟨15, 397, 409, 86⟩ [] htab9 (fun z hz9 => by
            rcases List.mem_cons.mp hz9 with rfl | hz9
            · exact Or.inr ⟨by decide, "java/lang/IndexOutOfBoundsException", (hts (.classLink RL 82 "java/lang/IndexOutOfBoundsException") (by decide +kernel)), hnc.2.2.2.1⟩
            · obtain rfl := List.mem_singleton.mp hz9
              exact Or.inr ⟨by decide, "java/lang/IllegalArgumentException", va_Nw.use rfl hnc.1, hnc.2.2.2.2⟩) rfl (by decide) (va_Nw.use rfl hnc.2.1) (va_Nw.use rfl hnest.2.2.2.1.2.2.2) hce hcv hcl ?_
          refine lv_astore (lv' := [(4, .ref (q9)), (3, .int (zI ((v % 2147483648 % (4 : Int)) - ((shI v 7) % 2147483648 % (2 : Int))))), (0, .ref (a 0)), (1, .int (zI (v))), (2, .int (zI (kd)))]) hx hb dL_isDone_409 hl (by decide) rfl (fun ls hl => ?_)
          refine lv_iconst (v := zI 1) hx hb dL_isDone_411 rfl ?_
          refine vx_ret ?_
          refine W.widen (k := 80) (n := 480) (by omega) (by omega) ?_
          exact W.zret (v := zI (1)) (ty := .boolean) hx hb hr (by decide +kernel) (fun t9 ht hW => ⟨⟨_, (q, σ), rfl, ⟨_, rfl, ⟨rfl, okA_mono hO (by omega) (by omega), Ev.rf σ⟩⟩, Wd_mk (wP_left hP) hE0 hS ht hW⟩, hS.F ht⟩) hS.2.2 dL_isDone_412
        · refine vx_catch hown (name := "java/lang/IndexOutOfBoundsException") [] ⟨15, 397, 401, 82⟩ [⟨15, 397, 405, 84⟩, ⟨15, 397, 409, 86⟩] htab9 (fun z hz9 => by cases hz9) rfl (by decide) (hts (.classLink RL 82 "java/lang/IndexOutOfBoundsException") (by decide +kernel)) (va_Nw.use rfl hnest.2.2.2.2.2.2.2) hce hcv hcl ?_
          refine lv_astore (lv' := [(4, .ref (q9)), (3, .int (zI ((v % 2147483648 % (4 : Int)) - ((shI v 7) % 2147483648 % (2 : Int))))), (0, .ref (a 0)), (1, .int (zI (v))), (2, .int (zI (kd)))]) hx hb dL_isDone_401 hl (by decide) rfl (fun ls hl => ?_)
          refine lv_iconst (v := zI 1) hx hb dL_isDone_403 rfl ?_
          refine vx_ret ?_
          refine W.widen (k := 80) (n := 480) (by omega) (by omega) ?_
          exact W.zret (v := zI (1)) (ty := .boolean) hx hb hr (by decide +kernel) (fun t9 ht hW => ⟨⟨_, (q, σ), rfl, ⟨_, rfl, ⟨rfl, okA_mono hO (by omega) (by omega), Ev.rf σ⟩⟩, Wd_mk (wP_left hP) hE0 hS ht hW⟩, hS.F ht⟩) hS.2.2 dL_isDone_404
      · skip
        obtain ⟨qc99, σc99⟩ := u9
        have hB1 : va_P D vwCl (wld cy a qc99 σc99) t9.heap := hB.1
        rw [ht] at hB1
        obtain ⟨hP, hD⟩ := wd_join hP hD hk hB1
        try dsimp only at hw
        have hS := hS1
        obtain ⟨zc99, rfl, hz99⟩ := hw
        have hO2 : okA (t0 + 1) (σc99 1 5) qc99 σc99 := hz99.1
        have hE2 : Ev σ σc99 := hz99.2.1
        refine lv_pop hx hb dL_isDone_102 rfl ?_
        refine lv_goto (tgt := 398) hx hb dL_isDone_103 (by decide) ?_
        refine lv_goto (tgt := 413) hx hb dL_isDone_398 (by decide) ?_
        refine lv_iconst (v := zI 1) hx hb dL_isDone_413 rfl ?_
        refine vx_ret ?_
        refine W.widen (k := 80) (n := 480) (by omega) (by omega) ?_
        exact W.zret (v := zI (1)) (ty := .boolean) hx hb hr (by decide +kernel) (fun t9 ht hW => ⟨⟨_, (qc99, σc99), rfl, ⟨_, rfl, ⟨rfl, hO2, hE2⟩⟩, Wd_mk (wP_left hP) hE0 hS ht hW⟩, hS.F ht⟩) hS.2.2 dL_isDone_414
    · refine lv_tableIn (off := 90) (tgt := 106) hx hb dL_isDone_16 (by rw [hx16]; omega) (by rw [hx16]; omega) (by rw [hx16, cd16]; rfl) (by decide) ?_
      refine lv_aload_n hx hb dL_isDone_106 rfl (lv_at hl 1 rfl) ?_
      refine lv_iload_n hx hb dL_isDone_107 rfl (lv_at hl 0 rfl) ?_
      refine lv_bipush (v := zI 50) hx hb dL_isDone_108 (by decide +kernel) ?_
      refine lv_iload_n hx hb dL_isDone_110 rfl (lv_at hl 2 rfl) ?_
      refine lv_iconst (v := zI 2) hx hb dL_isDone_111 rfl ?_
      refine z_ishr hx hb dL_isDone_112 ?_
      refine lv_bipush (v := zI 50) hx hb dL_isDone_113 (by decide +kernel) ?_
      refine va_calli (va_runS (As := [.int (zI (shI v 2)), .int (zI (50))]) (rest := [.int (zI (50)), .int (zI ((v % 2147483648 % (4 : Int)) - ((shI v 7) % 2147483648 % (2 : Int)))), .ref (a 0)]) ⟨hx, hb, hml, hown, hts⟩ (c_L_below l (shI v 2) (by omega) (50) (by omega) (by first | assumption | omega)) (va_cwS 2 hts gL_isDone_L_below rfl rfl rfl (by decide +kernel) ⟨Nat.le_of_ble_eq_true rfl, Nat.le_of_ble_eq_true rfl⟩) ⟨fun _ _ _ _ h => h, fun _ _ _ => ⟨rfl, trivial⟩⟩ rfl rfl hl.1 rfl (lv_room (Nat.le_of_ble_eq_true rfl)) dL_isDone_115 ⟨(show 0 + 0 + 0 + 0 ≤ 80 by omega), (show 0 + 0 + 0 + 0 ≤ 480 by omega)⟩) hS (fun _ _ h => h.elim) (fun _ h => h.elim) (fun rv115 u9 t9 H locs ht hvm hw hB hz hk hS1 => ?_)
      have hP := hP.kept (fun k x hk9 => hk x.1 ((hP k x hk9).lt) (fun h => h))
      have hk0 : ∀ x : Nat, x < s.heap.size → H[x]? = s.heap[x]? := fun x h9 => (hk x (Nat.lt_of_lt_of_le h9 hS.1) (fun h => h)).trans (hk0 x h9)
      have hS := hS1
      obtain rfl := hw
      refine z_iadd hx hb dL_isDone_118 ?_
      refine lv_bipush (v := zI 30) hx hb dL_isDone_119 (by decide +kernel) ?_
      refine lv_iload_n hx hb dL_isDone_121 rfl (lv_at hl 2 rfl) ?_
      refine lv_iconst (v := zI 3) hx hb dL_isDone_122 rfl ?_
      refine z_ishr hx hb dL_isDone_123 ?_
      refine lv_bipush (v := zI 25) hx hb dL_isDone_124 (by decide +kernel) ?_
      refine va_calli (va_runS (As := [.int (zI (shI v 3)), .int (zI (25))]) (rest := [.int (zI (30)), .int (zI (50 + ((shI v 2) % 2147483648 % (50 : Int)))), .int (zI ((v % 2147483648 % (4 : Int)) - ((shI v 7) % 2147483648 % (2 : Int)))), .ref (a 0)]) ⟨hx, hb, hml, hown, hts⟩ (c_L_below l (shI v 3) (by omega) (25) (by omega) (by first | assumption | omega)) (va_cwS 2 hts gL_isDone_L_below rfl rfl rfl (by decide +kernel) ⟨Nat.le_of_ble_eq_true rfl, Nat.le_of_ble_eq_true rfl⟩) ⟨fun _ _ _ _ h => h, fun _ _ _ => ⟨rfl, trivial⟩⟩ rfl rfl hl.1 rfl (lv_room (Nat.le_of_ble_eq_true rfl)) dL_isDone_126 ⟨(show 0 + 0 + 0 + 0 + 0 ≤ 80 by omega), (show 0 + 0 + 0 + 0 + 0 ≤ 480 by omega)⟩) hS (fun _ _ h => h.elim) (fun _ h => h.elim) (fun rv126 u9 t9 H locs ht hvm hw hB hz hk hS1 => ?_)
      have hP := hP.kept (fun k x hk9 => hk x.1 ((hP k x hk9).lt) (fun h => h))
      have hk0 : ∀ x : Nat, x < s.heap.size → H[x]? = s.heap[x]? := fun x h9 => (hk x (Nat.lt_of_lt_of_le h9 hS.1) (fun h => h)).trans (hk0 x h9)
      have hS := hS1
      obtain rfl := hw
      refine z_iadd hx hb dL_isDone_129 ?_
      refine lv_iload_n hx hb dL_isDone_130 rfl (lv_at hl 2 rfl) ?_
      refine lv_iconst (v := zI 4) hx hb dL_isDone_131 rfl ?_
      refine z_ishr hx hb dL_isDone_132 ?_
      refine lv_bipush (v := zI 35) hx hb dL_isDone_133 (by decide +kernel) ?_
      refine va_calli (va_runS (As := [.int (zI (shI v 4)), .int (zI (35))]) (rest := [.int (zI (30 + ((shI v 3) % 2147483648 % (25 : Int)))), .int (zI (50 + ((shI v 2) % 2147483648 % (50 : Int)))), .int (zI ((v % 2147483648 % (4 : Int)) - ((shI v 7) % 2147483648 % (2 : Int)))), .ref (a 0)]) ⟨hx, hb, hml, hown, hts⟩ (c_L_below l (shI v 4) (by omega) (35) (by omega) (by first | assumption | omega)) (va_cwS 2 hts gL_isDone_L_below rfl rfl rfl (by decide +kernel) ⟨Nat.le_of_ble_eq_true rfl, Nat.le_of_ble_eq_true rfl⟩) ⟨fun _ _ _ _ h => h, fun _ _ _ => ⟨rfl, trivial⟩⟩ rfl rfl hl.1 rfl (lv_room (Nat.le_of_ble_eq_true rfl)) dL_isDone_135 ⟨(show 0 + 0 + 0 + 0 + 0 + 0 ≤ 80 by omega), (show 0 + 0 + 0 + 0 + 0 + 0 ≤ 480 by omega)⟩) hS (fun _ _ h => h.elim) (fun _ h => h.elim) (fun rv135 u9 t9 H locs ht hvm hw hB hz hk hS1 => ?_)
      have hP := hP.kept (fun k x hk9 => hk x.1 ((hP k x hk9).lt) (fun h => h))
      have hk0 : ∀ x : Nat, x < s.heap.size → H[x]? = s.heap[x]? := fun x h9 => (hk x (Nat.lt_of_lt_of_le h9 hS.1) (fun h => h)).trans (hk0 x h9)
      have hS := hS1
      obtain rfl := hw
      refine lv_iload_n hx hb dL_isDone_138 rfl (lv_at hl 2 rfl) ?_
      refine lv_iconst (v := zI 5) hx hb dL_isDone_139 rfl ?_
      refine z_ishr hx hb dL_isDone_140 ?_
      refine lv_bipush (v := zI 9) hx hb dL_isDone_141 (by decide +kernel) ?_
      refine va_calli (va_runS (As := [.int (zI (shI v 5)), .int (zI (9))]) (rest := [.int (zI ((shI v 4) % 2147483648 % (35 : Int))), .int (zI (30 + ((shI v 3) % 2147483648 % (25 : Int)))), .int (zI (50 + ((shI v 2) % 2147483648 % (50 : Int)))), .int (zI ((v % 2147483648 % (4 : Int)) - ((shI v 7) % 2147483648 % (2 : Int)))), .ref (a 0)]) ⟨hx, hb, hml, hown, hts⟩ (c_L_below l (shI v 5) (by omega) (9) (by omega) (by first | assumption | omega)) (va_cwS 2 hts gL_isDone_L_below rfl rfl rfl (by decide +kernel) ⟨Nat.le_of_ble_eq_true rfl, Nat.le_of_ble_eq_true rfl⟩) ⟨fun _ _ _ _ h => h, fun _ _ _ => ⟨rfl, trivial⟩⟩ rfl rfl hl.1 rfl (lv_room (Nat.le_of_ble_eq_true rfl)) dL_isDone_143 ⟨(show 0 + 0 + 0 + 0 + 0 + 0 + 0 ≤ 80 by omega), (show 0 + 0 + 0 + 0 + 0 + 0 + 0 ≤ 480 by omega)⟩) hS (fun _ _ h => h.elim) (fun _ h => h.elim) (fun rv143 u9 t9 H locs ht hvm hw hB hz hk hS1 => ?_)
      have hP := hP.kept (fun k x hk9 => hk x.1 ((hP k x hk9).lt) (fun h => h))
      have hk0 : ∀ x : Nat, x < s.heap.size → H[x]? = s.heap[x]? := fun x h9 => (hk x (Nat.lt_of_lt_of_le h9 hS.1) (fun h => h)).trans (hk0 x h9)
      have hS := hS1
      obtain rfl := hw
      refine vx_calli (vx_runV (As := [.int (zI ((v % 2147483648 % (4 : Int)) - ((shI v 7) % 2147483648 % (2 : Int)))), .int (zI (50 + ((shI v 2) % 2147483648 % (50 : Int)))), .int (zI (30 + ((shI v 3) % 2147483648 % (25 : Int)))), .int (zI ((shI v 4) % 2147483648 % (35 : Int))), .int (zI ((shI v 5) % 2147483648 % (9 : Int)))]) (rest := []) ⟨hx, hb, hml, hown, hts⟩ (c_X7_table l hlT D cy a q σ H.size ((v % 2147483648 % (4 : Int)) - ((shI v 7) % 2147483648 % (2 : Int))) (by omega) (50 + ((shI v 2) % 2147483648 % (50 : Int))) (by omega) (30 + ((shI v 3) % 2147483648 % (25 : Int))) (by omega) ((shI v 4) % 2147483648 % (35 : Int)) (by omega) ((shI v 5) % 2147483648 % (9 : Int)) (by omega) _ hO (by first | assumption | omega)) (cwV 5 hts gL_isDone_X7_table rfl rfl rfl (by decide +kernel) ⟨Nat.le_of_ble_eq_true rfl, Nat.le_of_ble_eq_true rfl⟩) ⟨Wd_blind, va_recv hK hP (ci := 9) (q0 := 0) rfl wg_S, fun U hU hW => ⟨rfl, by rw [hU], Wd_mk (wP_left hP) hE0 hS hU hW⟩⟩ rfl rfl hl.1 rfl (lv_room (Nat.le_of_ble_eq_true rfl)) dL_isDone_146 ⟨(show 0 + 0 + 0 + 0 + 0 + 0 + 0 + 2 ≤ 80 by omega), (show 0 + 0 + 0 + 0 + 0 + 0 + 0 + 12 ≤ 480 by omega)⟩) hS (fun _ _ h => wF_mono hS.1 _ h) (fun _ h => wF_mono hS.1 _ h) (fun _ _ h => h.elim) (fun E9 ce9 q9 u9 t9 H locs ht hvm hpx hE hz hk hS1 hce hcv hcl => ?_) (fun rv146 u9 t9 H locs ht hvm hw hB hz hk hS1 => ?_)
      · skip
        have hP := hP.kept (fun k x hk9 => hk x.1 ((hP k x hk9).lt) (fun h => h))
        have hS := hS1
        rcases hE with rfl | rfl | rfl
        · refine vx_catch hown (name := "java/lang/IllegalArgumentException") [⟨15, 397, 401, 82⟩] ⟨15, 397, 405, 84⟩ [⟨15, 397, 409, 86⟩] htab9 (fun z hz9 => by
            obtain rfl := List.mem_singleton.mp hz9
            exact Or.inr ⟨by decide, "java/lang/IndexOutOfBoundsException", (hts (.classLink RL 82 "java/lang/IndexOutOfBoundsException") (by decide +kernel)), hnc.2.2.1⟩) rfl (by decide) (va_Nw.use rfl hnc.1) (va_Nw.use rfl hnest.2.2.1.2.2.2) hce hcv hcl ?_
          refine lv_astore (lv' := [(4, .ref (q9)), (3, .int (zI ((v % 2147483648 % (4 : Int)) - ((shI v 7) % 2147483648 % (2 : Int))))), (0, .ref (a 0)), (1, .int (zI (v))), (2, .int (zI (kd)))]) hx hb dL_isDone_405 hl (by decide) rfl (fun ls hl => ?_)
          refine lv_iconst (v := zI 1) hx hb dL_isDone_407 rfl ?_
          refine vx_ret ?_
          refine W.widen (k := 80) (n := 480) (by omega) (by omega) ?_
          exact W.zret (v := zI (1)) (ty := .boolean) hx hb hr (by decide +kernel) (fun t9 ht hW => ⟨⟨_, (q, σ), rfl, ⟨_, rfl, ⟨rfl, okA_mono hO (by omega) (by omega), Ev.rf σ⟩⟩, Wd_mk (wP_left hP) hE0 hS ht hW⟩, hS.F ht⟩) hS.2.2 dL_isDone_408
        · refine vx_catch hown (name := "java/lang/IllegalStateException") [⟨15, 397, 401, 82⟩, ⟨15, 397, 405, 84⟩] ⟨15, 397, 409, 86⟩ [] htab9 (fun z hz9 => by
            rcases List.mem_cons.mp hz9 with rfl | hz9
            · exact Or.inr ⟨by decide, "java/lang/IndexOutOfBoundsException", (hts (.classLink RL 82 "java/lang/IndexOutOfBoundsException") (by decide +kernel)), hnc.2.2.2.1⟩
            · obtain rfl := List.mem_singleton.mp hz9
              exact Or.inr ⟨by decide, "java/lang/IllegalArgumentException", va_Nw.use rfl hnc.1, hnc.2.2.2.2⟩) rfl (by decide) (va_Nw.use rfl hnc.2.1) (va_Nw.use rfl hnest.2.2.2.1.2.2.2) hce hcv hcl ?_
          refine lv_astore (lv' := [(4, .ref (q9)), (3, .int (zI ((v % 2147483648 % (4 : Int)) - ((shI v 7) % 2147483648 % (2 : Int))))), (0, .ref (a 0)), (1, .int (zI (v))), (2, .int (zI (kd)))]) hx hb dL_isDone_409 hl (by decide) rfl (fun ls hl => ?_)
          refine lv_iconst (v := zI 1) hx hb dL_isDone_411 rfl ?_
          refine vx_ret ?_
          refine W.widen (k := 80) (n := 480) (by omega) (by omega) ?_
          exact W.zret (v := zI (1)) (ty := .boolean) hx hb hr (by decide +kernel) (fun t9 ht hW => ⟨⟨_, (q, σ), rfl, ⟨_, rfl, ⟨rfl, okA_mono hO (by omega) (by omega), Ev.rf σ⟩⟩, Wd_mk (wP_left hP) hE0 hS ht hW⟩, hS.F ht⟩) hS.2.2 dL_isDone_412
        · refine vx_catch hown (name := "java/lang/IndexOutOfBoundsException") [] ⟨15, 397, 401, 82⟩ [⟨15, 397, 405, 84⟩, ⟨15, 397, 409, 86⟩] htab9 (fun z hz9 => by cases hz9) rfl (by decide) (hts (.classLink RL 82 "java/lang/IndexOutOfBoundsException") (by decide +kernel)) (va_Nw.use rfl hnest.2.2.2.2.2.2.2) hce hcv hcl ?_
          refine lv_astore (lv' := [(4, .ref (q9)), (3, .int (zI ((v % 2147483648 % (4 : Int)) - ((shI v 7) % 2147483648 % (2 : Int))))), (0, .ref (a 0)), (1, .int (zI (v))), (2, .int (zI (kd)))]) hx hb dL_isDone_401 hl (by decide) rfl (fun ls hl => ?_)
          refine lv_iconst (v := zI 1) hx hb dL_isDone_403 rfl ?_
          refine vx_ret ?_
          refine W.widen (k := 80) (n := 480) (by omega) (by omega) ?_
          exact W.zret (v := zI (1)) (ty := .boolean) hx hb hr (by decide +kernel) (fun t9 ht hW => ⟨⟨_, (q, σ), rfl, ⟨_, rfl, ⟨rfl, okA_mono hO (by omega) (by omega), Ev.rf σ⟩⟩, Wd_mk (wP_left hP) hE0 hS ht hW⟩, hS.F ht⟩) hS.2.2 dL_isDone_404
      · skip
        obtain ⟨qc146, σc146⟩ := u9
        have hB1 : va_P D vwCl (wld cy a qc146 σc146) t9.heap := hB.1
        rw [ht] at hB1
        obtain ⟨hP, hD⟩ := wd_join hP hD hk hB1
        try dsimp only at hw
        have hS := hS1
        obtain ⟨zc146, rfl, hz146⟩ := hw
        have hO2 : okA (t0 + 1) (σc146 1 5) qc146 σc146 := hz146.1
        have hE2 : Ev σ σc146 := hz146.2
        refine lv_pop hx hb dL_isDone_149 rfl ?_
        refine lv_goto (tgt := 398) hx hb dL_isDone_150 (by decide) ?_
        refine lv_goto (tgt := 413) hx hb dL_isDone_398 (by decide) ?_
        refine lv_iconst (v := zI 1) hx hb dL_isDone_413 rfl ?_
        refine vx_ret ?_
        refine W.widen (k := 80) (n := 480) (by omega) (by omega) ?_
        exact W.zret (v := zI (1)) (ty := .boolean) hx hb hr (by decide +kernel) (fun t9 ht hW => ⟨⟨_, (qc146, σc146), rfl, ⟨_, rfl, ⟨rfl, hO2, hE2⟩⟩, Wd_mk (wP_left hP) hE0 hS ht hW⟩, hS.F ht⟩) hS.2.2 dL_isDone_414
    · refine lv_tableIn (off := 137) (tgt := 153) hx hb dL_isDone_16 (by rw [hx16]; omega) (by rw [hx16]; omega) (by rw [hx16, cd16]; rfl) (by decide) ?_
      refine lv_aload_n hx hb dL_isDone_153 rfl (lv_at hl 1 rfl) ?_
      refine lv_iload_n hx hb dL_isDone_154 rfl (lv_at hl 0 rfl) ?_
      refine lv_iload_n hx hb dL_isDone_155 rfl (lv_at hl 2 rfl) ?_
      refine lv_iconst (v := zI 2) hx hb dL_isDone_156 rfl ?_
      refine z_ishr hx hb dL_isDone_157 ?_
      refine lv_bipush (v := zI 25) hx hb dL_isDone_158 (by decide +kernel) ?_
      refine va_calli (va_runS (As := [.int (zI (shI v 2)), .int (zI (25))]) (rest := [.int (zI ((v % 2147483648 % (4 : Int)) - ((shI v 7) % 2147483648 % (2 : Int)))), .ref (a 0)]) ⟨hx, hb, hml, hown, hts⟩ (c_L_below l (shI v 2) (by omega) (25) (by omega) (by first | assumption | omega)) (va_cwS 2 hts gL_isDone_L_below rfl rfl rfl (by decide +kernel) ⟨Nat.le_of_ble_eq_true rfl, Nat.le_of_ble_eq_true rfl⟩) ⟨fun _ _ _ _ h => h, fun _ _ _ => ⟨rfl, trivial⟩⟩ rfl rfl hl.1 rfl (lv_room (Nat.le_of_ble_eq_true rfl)) dL_isDone_160 ⟨(show 0 + 0 + 0 + 0 ≤ 80 by omega), (show 0 + 0 + 0 + 0 ≤ 480 by omega)⟩) hS (fun _ _ h => h.elim) (fun _ h => h.elim) (fun rv160 u9 t9 H locs ht hvm hw hB hz hk hS1 => ?_)
      have hP := hP.kept (fun k x hk9 => hk x.1 ((hP k x hk9).lt) (fun h => h))
      have hk0 : ∀ x : Nat, x < s.heap.size → H[x]? = s.heap[x]? := fun x h9 => (hk x (Nat.lt_of_lt_of_le h9 hS.1) (fun h => h)).trans (hk0 x h9)
      have hS := hS1
      obtain rfl := hw
      refine lv_iload_n hx hb dL_isDone_163 rfl (lv_at hl 2 rfl) ?_
      refine lv_iconst (v := zI 3) hx hb dL_isDone_164 rfl ?_
      refine z_ishr hx hb dL_isDone_165 ?_
      refine lv_bipush (v := zI 24) hx hb dL_isDone_166 (by decide +kernel) ?_
      refine va_calli (va_runS (As := [.int (zI (shI v 3)), .int (zI (24))]) (rest := [.int (zI ((shI v 2) % 2147483648 % (25 : Int))), .int (zI ((v % 2147483648 % (4 : Int)) - ((shI v 7) % 2147483648 % (2 : Int)))), .ref (a 0)]) ⟨hx, hb, hml, hown, hts⟩ (c_L_below l (shI v 3) (by omega) (24) (by omega) (by first | assumption | omega)) (va_cwS 2 hts gL_isDone_L_below rfl rfl rfl (by decide +kernel) ⟨Nat.le_of_ble_eq_true rfl, Nat.le_of_ble_eq_true rfl⟩) ⟨fun _ _ _ _ h => h, fun _ _ _ => ⟨rfl, trivial⟩⟩ rfl rfl hl.1 rfl (lv_room (Nat.le_of_ble_eq_true rfl)) dL_isDone_168 ⟨(show 0 + 0 + 0 + 0 + 0 ≤ 80 by omega), (show 0 + 0 + 0 + 0 + 0 ≤ 480 by omega)⟩) hS (fun _ _ h => h.elim) (fun _ h => h.elim) (fun rv168 u9 t9 H locs ht hvm hw hB hz hk hS1 => ?_)
      have hP := hP.kept (fun k x hk9 => hk x.1 ((hP k x hk9).lt) (fun h => h))
      have hk0 : ∀ x : Nat, x < s.heap.size → H[x]? = s.heap[x]? := fun x h9 => (hk x (Nat.lt_of_lt_of_le h9 hS.1) (fun h => h)).trans (hk0 x h9)
      have hS := hS1
      obtain rfl := hw
      refine lv_iload_n hx hb dL_isDone_171 rfl (lv_at hl 2 rfl) ?_
      refine lv_iconst (v := zI 4) hx hb dL_isDone_172 rfl ?_
      refine z_ishr hx hb dL_isDone_173 ?_
      refine lv_bipush (v := zI 24) hx hb dL_isDone_174 (by decide +kernel) ?_
      refine va_calli (va_runS (As := [.int (zI (shI v 4)), .int (zI (24))]) (rest := [.int (zI ((shI v 3) % 2147483648 % (24 : Int))), .int (zI ((shI v 2) % 2147483648 % (25 : Int))), .int (zI ((v % 2147483648 % (4 : Int)) - ((shI v 7) % 2147483648 % (2 : Int)))), .ref (a 0)]) ⟨hx, hb, hml, hown, hts⟩ (c_L_below l (shI v 4) (by omega) (24) (by omega) (by first | assumption | omega)) (va_cwS 2 hts gL_isDone_L_below rfl rfl rfl (by decide +kernel) ⟨Nat.le_of_ble_eq_true rfl, Nat.le_of_ble_eq_true rfl⟩) ⟨fun _ _ _ _ h => h, fun _ _ _ => ⟨rfl, trivial⟩⟩ rfl rfl hl.1 rfl (lv_room (Nat.le_of_ble_eq_true rfl)) dL_isDone_176 ⟨(show 0 + 0 + 0 + 0 + 0 + 0 ≤ 80 by omega), (show 0 + 0 + 0 + 0 + 0 + 0 ≤ 480 by omega)⟩) hS (fun _ _ h => h.elim) (fun _ h => h.elim) (fun rv176 u9 t9 H locs ht hvm hw hB hz hk hS1 => ?_)
      have hP := hP.kept (fun k x hk9 => hk x.1 ((hP k x hk9).lt) (fun h => h))
      have hk0 : ∀ x : Nat, x < s.heap.size → H[x]? = s.heap[x]? := fun x h9 => (hk x (Nat.lt_of_lt_of_le h9 hS.1) (fun h => h)).trans (hk0 x h9)
      have hS := hS1
      obtain rfl := hw
      refine lv_iload_n hx hb dL_isDone_179 rfl (lv_at hl 2 rfl) ?_
      refine lv_iconst (v := zI 5) hx hb dL_isDone_180 rfl ?_
      refine z_ishr hx hb dL_isDone_181 ?_
      refine lv_bipush (v := zI 26) hx hb dL_isDone_182 (by decide +kernel) ?_
      refine va_calli (va_runS (As := [.int (zI (shI v 5)), .int (zI (26))]) (rest := [.int (zI ((shI v 4) % 2147483648 % (24 : Int))), .int (zI ((shI v 3) % 2147483648 % (24 : Int))), .int (zI ((shI v 2) % 2147483648 % (25 : Int))), .int (zI ((v % 2147483648 % (4 : Int)) - ((shI v 7) % 2147483648 % (2 : Int)))), .ref (a 0)]) ⟨hx, hb, hml, hown, hts⟩ (c_L_below l (shI v 5) (by omega) (26) (by omega) (by first | assumption | omega)) (va_cwS 2 hts gL_isDone_L_below rfl rfl rfl (by decide +kernel) ⟨Nat.le_of_ble_eq_true rfl, Nat.le_of_ble_eq_true rfl⟩) ⟨fun _ _ _ _ h => h, fun _ _ _ => ⟨rfl, trivial⟩⟩ rfl rfl hl.1 rfl (lv_room (Nat.le_of_ble_eq_true rfl)) dL_isDone_184 ⟨(show 0 + 0 + 0 + 0 + 0 + 0 + 0 ≤ 80 by omega), (show 0 + 0 + 0 + 0 + 0 + 0 + 0 ≤ 480 by omega)⟩) hS (fun _ _ h => h.elim) (fun _ h => h.elim) (fun rv184 u9 t9 H locs ht hvm hw hB hz hk hS1 => ?_)
      have hP := hP.kept (fun k x hk9 => hk x.1 ((hP k x hk9).lt) (fun h => h))
      have hk0 : ∀ x : Nat, x < s.heap.size → H[x]? = s.heap[x]? := fun x h9 => (hk x (Nat.lt_of_lt_of_le h9 hS.1) (fun h => h)).trans (hk0 x h9)
      have hS := hS1
      obtain rfl := hw
      refine vx_calli (vx_runV (As := [.int (zI ((v % 2147483648 % (4 : Int)) - ((shI v 7) % 2147483648 % (2 : Int)))), .int (zI ((shI v 2) % 2147483648 % (25 : Int))), .int (zI ((shI v 3) % 2147483648 % (24 : Int))), .int (zI ((shI v 4) % 2147483648 % (24 : Int))), .int (zI ((shI v 5) % 2147483648 % (26 : Int)))]) (rest := []) ⟨hx, hb, hml, hown, hts⟩ (c_X7_zone l hlT D cy a q σ H.size ((v % 2147483648 % (4 : Int)) - ((shI v 7) % 2147483648 % (2 : Int))) (by omega) ((shI v 2) % 2147483648 % (25 : Int)) (by omega) ((shI v 3) % 2147483648 % (24 : Int)) (by omega) ((shI v 4) % 2147483648 % (24 : Int)) (by omega) ((shI v 5) % 2147483648 % (26 : Int)) (by omega) _ hO (by first | assumption | omega)) (cwV 5 hts gL_isDone_X7_zone rfl rfl rfl (by decide +kernel) ⟨Nat.le_of_ble_eq_true rfl, Nat.le_of_ble_eq_true rfl⟩) ⟨Wd_blind, va_recv hK hP (ci := 9) (q0 := 0) rfl wg_S, fun U hU hW => ⟨rfl, by rw [hU], Wd_mk (wP_left hP) hE0 hS hU hW⟩⟩ rfl rfl hl.1 rfl (lv_room (Nat.le_of_ble_eq_true rfl)) dL_isDone_187 ⟨(show 0 + 0 + 0 + 0 + 0 + 0 + 0 + 2 ≤ 80 by omega), (show 0 + 0 + 0 + 0 + 0 + 0 + 0 + 12 ≤ 480 by omega)⟩) hS (fun _ _ h => wF_mono hS.1 _ h) (fun _ h => wF_mono hS.1 _ h) (fun _ _ h => h.elim) (fun E9 ce9 q9 u9 t9 H locs ht hvm hpx hE hz hk hS1 hce hcv hcl => ?_) (fun rv187 u9 t9 H locs ht hvm hw hB hz hk hS1 => ?_)
      · skip
        have hP := hP.kept (fun k x hk9 => hk x.1 ((hP k x hk9).lt) (fun h => h))
        have hS := hS1
        rcases hE with rfl | rfl | rfl
        · refine vx_catch hown (name := "java/lang/IllegalArgumentException") [⟨15, 397, 401, 82⟩] ⟨15, 397, 405, 84⟩ [⟨15, 397, 409, 86⟩] htab9 (fun z hz9 => by
            obtain rfl := List.mem_singleton.mp hz9
            exact Or.inr ⟨by decide, "java/lang/IndexOutOfBoundsException", (hts (.classLink RL 82 "java/lang/IndexOutOfBoundsException") (by decide +kernel)), hnc.2.2.1⟩) rfl (by decide) (va_Nw.use rfl hnc.1) (va_Nw.use rfl hnest.2.2.1.2.2.2) hce hcv hcl ?_
          refine lv_astore (lv' := [(4, .ref (q9)), (3, .int (zI ((v % 2147483648 % (4 : Int)) - ((shI v 7) % 2147483648 % (2 : Int))))), (0, .ref (a 0)), (1, .int (zI (v))), (2, .int (zI (kd)))]) hx hb dL_isDone_405 hl (by decide) rfl (fun ls hl => ?_)
          refine lv_iconst (v := zI 1) hx hb dL_isDone_407 rfl ?_
          refine vx_ret ?_
          refine W.widen (k := 80) (n := 480) (by omega) (by omega) ?_
          exact W.zret (v := zI (1)) (ty := .boolean) hx hb hr (by decide +kernel) (fun t9 ht hW => ⟨⟨_, (q, σ), rfl, ⟨_, rfl, ⟨rfl, okA_mono hO (by omega) (by omega), Ev.rf σ⟩⟩, Wd_mk (wP_left hP) hE0 hS ht hW⟩, hS.F ht⟩) hS.2.2 dL_isDone_408
        · refine vx_catch hown (name := "java/lang/IllegalStateException") [⟨15, 397, 401, 82⟩, ⟨15, 397, 405, 84⟩] ⟨15, 397, 409, 86⟩ [] htab9 (fun z hz9 => by
            rcases List.mem_cons.mp hz9 with rfl | hz9
            · exact Or.inr ⟨by decide, "java/lang/IndexOutOfBoundsException", (hts (.classLink RL 82 "java/lang/IndexOutOfBoundsException") (by decide +kernel)), hnc.2.2.2.1⟩
            · obtain rfl := List.mem_singleton.mp hz9
              exact Or.inr ⟨by decide, "java/lang/IllegalArgumentException", va_Nw.use rfl hnc.1, hnc.2.2.2.2⟩) rfl (by decide) (va_Nw.use rfl hnc.2.1) (va_Nw.use rfl hnest.2.2.2.1.2.2.2) hce hcv hcl ?_
          refine lv_astore (lv' := [(4, .ref (q9)), (3, .int (zI ((v % 2147483648 % (4 : Int)) - ((shI v 7) % 2147483648 % (2 : Int))))), (0, .ref (a 0)), (1, .int (zI (v))), (2, .int (zI (kd)))]) hx hb dL_isDone_409 hl (by decide) rfl (fun ls hl => ?_)
          refine lv_iconst (v := zI 1) hx hb dL_isDone_411 rfl ?_
          refine vx_ret ?_
          refine W.widen (k := 80) (n := 480) (by omega) (by omega) ?_
          exact W.zret (v := zI (1)) (ty := .boolean) hx hb hr (by decide +kernel) (fun t9 ht hW => ⟨⟨_, (q, σ), rfl, ⟨_, rfl, ⟨rfl, okA_mono hO (by omega) (by omega), Ev.rf σ⟩⟩, Wd_mk (wP_left hP) hE0 hS ht hW⟩, hS.F ht⟩) hS.2.2 dL_isDone_412
        · refine vx_catch hown (name := "java/lang/IndexOutOfBoundsException") [] ⟨15, 397, 401, 82⟩ [⟨15, 397, 405, 84⟩, ⟨15, 397, 409, 86⟩] htab9 (fun z hz9 => by cases hz9) rfl (by decide) (hts (.classLink RL 82 "java/lang/IndexOutOfBoundsException") (by decide +kernel)) (va_Nw.use rfl hnest.2.2.2.2.2.2.2) hce hcv hcl ?_
          refine lv_astore (lv' := [(4, .ref (q9)), (3, .int (zI ((v % 2147483648 % (4 : Int)) - ((shI v 7) % 2147483648 % (2 : Int))))), (0, .ref (a 0)), (1, .int (zI (v))), (2, .int (zI (kd)))]) hx hb dL_isDone_401 hl (by decide) rfl (fun ls hl => ?_)
          refine lv_iconst (v := zI 1) hx hb dL_isDone_403 rfl ?_
          refine vx_ret ?_
          refine W.widen (k := 80) (n := 480) (by omega) (by omega) ?_
          exact W.zret (v := zI (1)) (ty := .boolean) hx hb hr (by decide +kernel) (fun t9 ht hW => ⟨⟨_, (q, σ), rfl, ⟨_, rfl, ⟨rfl, okA_mono hO (by omega) (by omega), Ev.rf σ⟩⟩, Wd_mk (wP_left hP) hE0 hS ht hW⟩, hS.F ht⟩) hS.2.2 dL_isDone_404
      · skip
        obtain ⟨qc187, σc187⟩ := u9
        have hB1 : va_P D vwCl (wld cy a qc187 σc187) t9.heap := hB.1
        rw [ht] at hB1
        obtain ⟨hP, hD⟩ := wd_join hP hD hk hB1
        try dsimp only at hw
        have hS := hS1
        obtain ⟨zc187, rfl, hz187⟩ := hw
        have hO2 : okA (t0 + 1) (σc187 1 5) qc187 σc187 := hz187.1
        have hE2 : Ev σ σc187 := hz187.2
        refine lv_pop hx hb dL_isDone_190 rfl ?_
        refine lv_goto (tgt := 398) hx hb dL_isDone_191 (by decide) ?_
        refine lv_goto (tgt := 413) hx hb dL_isDone_398 (by decide) ?_
        refine lv_iconst (v := zI 1) hx hb dL_isDone_413 rfl ?_
        refine vx_ret ?_
        refine W.widen (k := 80) (n := 480) (by omega) (by omega) ?_
        exact W.zret (v := zI (1)) (ty := .boolean) hx hb hr (by decide +kernel) (fun t9 ht hW => ⟨⟨_, (qc187, σc187), rfl, ⟨_, rfl, ⟨rfl, hO2, hE2⟩⟩, Wd_mk (wP_left hP) hE0 hS ht hW⟩, hS.F ht⟩) hS.2.2 dL_isDone_414
    · refine lv_tableIn (off := 178) (tgt := 194) hx hb dL_isDone_16 (by rw [hx16]; omega) (by rw [hx16]; omega) (by rw [hx16, cd16]; rfl) (by decide) ?_
      refine lv_aload_n hx hb dL_isDone_194 rfl (lv_at hl 1 rfl) ?_
      refine lv_iload_n hx hb dL_isDone_195 rfl (lv_at hl 0 rfl) ?_
      refine lv_iload_n hx hb dL_isDone_196 rfl (lv_at hl 2 rfl) ?_
      refine lv_iconst (v := zI 2) hx hb dL_isDone_197 rfl ?_
      refine z_ishr hx hb dL_isDone_198 ?_
      refine lv_bipush (v := zI 24) hx hb dL_isDone_199 (by decide +kernel) ?_
      refine va_calli (va_runS (As := [.int (zI (shI v 2)), .int (zI (24))]) (rest := [.int (zI ((v % 2147483648 % (4 : Int)) - ((shI v 7) % 2147483648 % (2 : Int)))), .ref (a 0)]) ⟨hx, hb, hml, hown, hts⟩ (c_L_below l (shI v 2) (by omega) (24) (by omega) (by first | assumption | omega)) (va_cwS 2 hts gL_isDone_L_below rfl rfl rfl (by decide +kernel) ⟨Nat.le_of_ble_eq_true rfl, Nat.le_of_ble_eq_true rfl⟩) ⟨fun _ _ _ _ h => h, fun _ _ _ => ⟨rfl, trivial⟩⟩ rfl rfl hl.1 rfl (lv_room (Nat.le_of_ble_eq_true rfl)) dL_isDone_201 ⟨(show 0 + 0 + 0 + 0 ≤ 80 by omega), (show 0 + 0 + 0 + 0 ≤ 480 by omega)⟩) hS (fun _ _ h => h.elim) (fun _ h => h.elim) (fun rv201 u9 t9 H locs ht hvm hw hB hz hk hS1 => ?_)
      have hP := hP.kept (fun k x hk9 => hk x.1 ((hP k x hk9).lt) (fun h => h))
      have hk0 : ∀ x : Nat, x < s.heap.size → H[x]? = s.heap[x]? := fun x h9 => (hk x (Nat.lt_of_lt_of_le h9 hS.1) (fun h => h)).trans (hk0 x h9)
      have hS := hS1
      obtain rfl := hw
      refine lv_iload_n hx hb dL_isDone_204 rfl (lv_at hl 2 rfl) ?_
      refine lv_iconst (v := zI 3) hx hb dL_isDone_205 rfl ?_
      refine z_ishr hx hb dL_isDone_206 ?_
      refine lv_iconst (v := zI 3) hx hb dL_isDone_207 rfl ?_
      refine va_calli (va_runS (As := [.int (zI (shI v 3)), .int (zI (3))]) (rest := [.int (zI ((shI v 2) % 2147483648 % (24 : Int))), .int (zI ((v % 2147483648 % (4 : Int)) - ((shI v 7) % 2147483648 % (2 : Int)))), .ref (a 0)]) ⟨hx, hb, hml, hown, hts⟩ (c_L_below l (shI v 3) (by omega) (3) (by omega) (by first | assumption | omega)) (va_cwS 2 hts gL_isDone_L_below rfl rfl rfl (by decide +kernel) ⟨Nat.le_of_ble_eq_true rfl, Nat.le_of_ble_eq_true rfl⟩) ⟨fun _ _ _ _ h => h, fun _ _ _ => ⟨rfl, trivial⟩⟩ rfl rfl hl.1 rfl (lv_room (Nat.le_of_ble_eq_true rfl)) dL_isDone_208 ⟨(show 0 + 0 + 0 + 0 + 0 ≤ 80 by omega), (show 0 + 0 + 0 + 0 + 0 ≤ 480 by omega)⟩) hS (fun _ _ h => h.elim) (fun _ h => h.elim) (fun rv208 u9 t9 H locs ht hvm hw hB hz hk hS1 => ?_)
      have hP := hP.kept (fun k x hk9 => hk x.1 ((hP k x hk9).lt) (fun h => h))
      have hk0 : ∀ x : Nat, x < s.heap.size → H[x]? = s.heap[x]? := fun x h9 => (hk x (Nat.lt_of_lt_of_le h9 hS.1) (fun h => h)).trans (hk0 x h9)
      have hS := hS1
      obtain rfl := hw
      refine lv_iload_n hx hb dL_isDone_211 rfl (lv_at hl 2 rfl) ?_
      refine lv_iconst (v := zI 4) hx hb dL_isDone_212 rfl ?_
      refine z_ishr hx hb dL_isDone_213 ?_
      refine lv_bipush (v := zI 24) hx hb dL_isDone_214 (by decide +kernel) ?_
      refine va_calli (va_runS (As := [.int (zI (shI v 4)), .int (zI (24))]) (rest := [.int (zI ((shI v 3) % 2147483648 % (3 : Int))), .int (zI ((shI v 2) % 2147483648 % (24 : Int))), .int (zI ((v % 2147483648 % (4 : Int)) - ((shI v 7) % 2147483648 % (2 : Int)))), .ref (a 0)]) ⟨hx, hb, hml, hown, hts⟩ (c_L_below l (shI v 4) (by omega) (24) (by omega) (by first | assumption | omega)) (va_cwS 2 hts gL_isDone_L_below rfl rfl rfl (by decide +kernel) ⟨Nat.le_of_ble_eq_true rfl, Nat.le_of_ble_eq_true rfl⟩) ⟨fun _ _ _ _ h => h, fun _ _ _ => ⟨rfl, trivial⟩⟩ rfl rfl hl.1 rfl (lv_room (Nat.le_of_ble_eq_true rfl)) dL_isDone_216 ⟨(show 0 + 0 + 0 + 0 + 0 + 0 ≤ 80 by omega), (show 0 + 0 + 0 + 0 + 0 + 0 ≤ 480 by omega)⟩) hS (fun _ _ h => h.elim) (fun _ h => h.elim) (fun rv216 u9 t9 H locs ht hvm hw hB hz hk hS1 => ?_)
      have hP := hP.kept (fun k x hk9 => hk x.1 ((hP k x hk9).lt) (fun h => h))
      have hk0 : ∀ x : Nat, x < s.heap.size → H[x]? = s.heap[x]? := fun x h9 => (hk x (Nat.lt_of_lt_of_le h9 hS.1) (fun h => h)).trans (hk0 x h9)
      have hS := hS1
      obtain rfl := hw
      refine vx_calli (vx_runV (As := [.int (zI ((v % 2147483648 % (4 : Int)) - ((shI v 7) % 2147483648 % (2 : Int)))), .int (zI ((shI v 2) % 2147483648 % (24 : Int))), .int (zI ((shI v 3) % 2147483648 % (3 : Int))), .int (zI ((shI v 4) % 2147483648 % (24 : Int)))]) (rest := []) ⟨hx, hb, hml, hown, hts⟩ (c_X7_meeting l hlT D cy a q σ H.size ((v % 2147483648 % (4 : Int)) - ((shI v 7) % 2147483648 % (2 : Int))) (by omega) ((shI v 2) % 2147483648 % (24 : Int)) (by omega) ((shI v 3) % 2147483648 % (3 : Int)) (by omega) ((shI v 4) % 2147483648 % (24 : Int)) (by omega) _ hO (by first | assumption | omega)) (cwV 4 hts gL_isDone_X7_meeting rfl rfl rfl (by decide +kernel) ⟨Nat.le_of_ble_eq_true rfl, Nat.le_of_ble_eq_true rfl⟩) ⟨Wd_blind, va_recv hK hP (ci := 9) (q0 := 0) rfl wg_S, fun U hU hW => ⟨rfl, by rw [hU], Wd_mk (wP_left hP) hE0 hS hU hW⟩⟩ rfl rfl hl.1 rfl (lv_room (Nat.le_of_ble_eq_true rfl)) dL_isDone_219 ⟨(show 0 + 0 + 0 + 0 + 0 + 0 + 3 ≤ 80 by omega), (show 0 + 0 + 0 + 0 + 0 + 0 + 18 ≤ 480 by omega)⟩) hS (fun _ _ h => wF_mono hS.1 _ h) (fun _ h => wF_mono hS.1 _ h) (fun _ _ h => h.elim) (fun E9 ce9 q9 u9 t9 H locs ht hvm hpx hE hz hk hS1 hce hcv hcl => ?_) (fun rv219 u9 t9 H locs ht hvm hw hB hz hk hS1 => ?_)
      · skip
        have hP := hP.kept (fun k x hk9 => hk x.1 ((hP k x hk9).lt) (fun h => h))
        have hS := hS1
        rcases hE with rfl | rfl | rfl
        · refine vx_catch hown (name := "java/lang/IllegalArgumentException") [⟨15, 397, 401, 82⟩] ⟨15, 397, 405, 84⟩ [⟨15, 397, 409, 86⟩] htab9 (fun z hz9 => by
            obtain rfl := List.mem_singleton.mp hz9
            exact Or.inr ⟨by decide, "java/lang/IndexOutOfBoundsException", (hts (.classLink RL 82 "java/lang/IndexOutOfBoundsException") (by decide +kernel)), hnc.2.2.1⟩) rfl (by decide) (va_Nw.use rfl hnc.1) (va_Nw.use rfl hnest.2.2.1.2.2.2) hce hcv hcl ?_
          refine lv_astore (lv' := [(4, .ref (q9)), (3, .int (zI ((v % 2147483648 % (4 : Int)) - ((shI v 7) % 2147483648 % (2 : Int))))), (0, .ref (a 0)), (1, .int (zI (v))), (2, .int (zI (kd)))]) hx hb dL_isDone_405 hl (by decide) rfl (fun ls hl => ?_)
          refine lv_iconst (v := zI 1) hx hb dL_isDone_407 rfl ?_
          refine vx_ret ?_
          refine W.widen (k := 80) (n := 480) (by omega) (by omega) ?_
          exact W.zret (v := zI (1)) (ty := .boolean) hx hb hr (by decide +kernel) (fun t9 ht hW => ⟨⟨_, (q, σ), rfl, ⟨_, rfl, ⟨rfl, okA_mono hO (by omega) (by omega), Ev.rf σ⟩⟩, Wd_mk (wP_left hP) hE0 hS ht hW⟩, hS.F ht⟩) hS.2.2 dL_isDone_408
        · refine vx_catch hown (name := "java/lang/IllegalStateException") [⟨15, 397, 401, 82⟩, ⟨15, 397, 405, 84⟩] ⟨15, 397, 409, 86⟩ [] htab9 (fun z hz9 => by
            rcases List.mem_cons.mp hz9 with rfl | hz9
            · exact Or.inr ⟨by decide, "java/lang/IndexOutOfBoundsException", (hts (.classLink RL 82 "java/lang/IndexOutOfBoundsException") (by decide +kernel)), hnc.2.2.2.1⟩
            · obtain rfl := List.mem_singleton.mp hz9
              exact Or.inr ⟨by decide, "java/lang/IllegalArgumentException", va_Nw.use rfl hnc.1, hnc.2.2.2.2⟩) rfl (by decide) (va_Nw.use rfl hnc.2.1) (va_Nw.use rfl hnest.2.2.2.1.2.2.2) hce hcv hcl ?_
          refine lv_astore (lv' := [(4, .ref (q9)), (3, .int (zI ((v % 2147483648 % (4 : Int)) - ((shI v 7) % 2147483648 % (2 : Int))))), (0, .ref (a 0)), (1, .int (zI (v))), (2, .int (zI (kd)))]) hx hb dL_isDone_409 hl (by decide) rfl (fun ls hl => ?_)
          refine lv_iconst (v := zI 1) hx hb dL_isDone_411 rfl ?_
          refine vx_ret ?_
          refine W.widen (k := 80) (n := 480) (by omega) (by omega) ?_
          exact W.zret (v := zI (1)) (ty := .boolean) hx hb hr (by decide +kernel) (fun t9 ht hW => ⟨⟨_, (q, σ), rfl, ⟨_, rfl, ⟨rfl, okA_mono hO (by omega) (by omega), Ev.rf σ⟩⟩, Wd_mk (wP_left hP) hE0 hS ht hW⟩, hS.F ht⟩) hS.2.2 dL_isDone_412
        · refine vx_catch hown (name := "java/lang/IndexOutOfBoundsException") [] ⟨15, 397, 401, 82⟩ [⟨15, 397, 405, 84⟩, ⟨15, 397, 409, 86⟩] htab9 (fun z hz9 => by cases hz9) rfl (by decide) (hts (.classLink RL 82 "java/lang/IndexOutOfBoundsException") (by decide +kernel)) (va_Nw.use rfl hnest.2.2.2.2.2.2.2) hce hcv hcl ?_
          refine lv_astore (lv' := [(4, .ref (q9)), (3, .int (zI ((v % 2147483648 % (4 : Int)) - ((shI v 7) % 2147483648 % (2 : Int))))), (0, .ref (a 0)), (1, .int (zI (v))), (2, .int (zI (kd)))]) hx hb dL_isDone_401 hl (by decide) rfl (fun ls hl => ?_)
          refine lv_iconst (v := zI 1) hx hb dL_isDone_403 rfl ?_
          refine vx_ret ?_
          refine W.widen (k := 80) (n := 480) (by omega) (by omega) ?_
          exact W.zret (v := zI (1)) (ty := .boolean) hx hb hr (by decide +kernel) (fun t9 ht hW => ⟨⟨_, (q, σ), rfl, ⟨_, rfl, ⟨rfl, okA_mono hO (by omega) (by omega), Ev.rf σ⟩⟩, Wd_mk (wP_left hP) hE0 hS ht hW⟩, hS.F ht⟩) hS.2.2 dL_isDone_404
      · skip
        obtain ⟨qc219, σc219⟩ := u9
        have hB1 : va_P D vwCl (wld cy a qc219 σc219) t9.heap := hB.1
        rw [ht] at hB1
        obtain ⟨hP, hD⟩ := wd_join hP hD hk hB1
        try dsimp only at hw
        have hS := hS1
        obtain ⟨zc219, rfl, hz219⟩ := hw
        have hO2 : okA (t0 + 1) (σc219 1 5) qc219 σc219 := hz219.1
        have hE2 : Ev σ σc219 := hz219.2
        refine lv_pop hx hb dL_isDone_222 rfl ?_
        refine lv_goto (tgt := 398) hx hb dL_isDone_223 (by decide) ?_
        refine lv_goto (tgt := 413) hx hb dL_isDone_398 (by decide) ?_
        refine lv_iconst (v := zI 1) hx hb dL_isDone_413 rfl ?_
        refine vx_ret ?_
        refine W.widen (k := 80) (n := 480) (by omega) (by omega) ?_
        exact W.zret (v := zI (1)) (ty := .boolean) hx hb hr (by decide +kernel) (fun t9 ht hW => ⟨⟨_, (qc219, σc219), rfl, ⟨_, rfl, ⟨rfl, hO2, hE2⟩⟩, Wd_mk (wP_left hP) hE0 hS ht hW⟩, hS.F ht⟩) hS.2.2 dL_isDone_414
    · refine lv_tableIn (off := 210) (tgt := 226) hx hb dL_isDone_16 (by rw [hx16]; omega) (by rw [hx16]; omega) (by rw [hx16, cd16]; rfl) (by decide) ?_
      refine lv_aload_n hx hb dL_isDone_226 rfl (lv_at hl 1 rfl) ?_
      refine lv_iload_n hx hb dL_isDone_227 rfl (lv_at hl 0 rfl) ?_
      refine vx_calli (vx_runV (As := [.int (zI ((v % 2147483648 % (4 : Int)) - ((shI v 7) % 2147483648 % (2 : Int))))]) (rest := []) ⟨hx, hb, hml, hown, hts⟩ (c_X7_rope l hlT D cy a q σ H.size ((v % 2147483648 % (4 : Int)) - ((shI v 7) % 2147483648 % (2 : Int))) (by omega) _ hO (by first | assumption | omega)) (cwV 1 hts gL_isDone_X7_rope rfl rfl rfl (by decide +kernel) ⟨Nat.le_of_ble_eq_true rfl, Nat.le_of_ble_eq_true rfl⟩) ⟨Wd_blind, va_recv hK hP (ci := 9) (q0 := 0) rfl wg_S, fun U hU hW => ⟨rfl, by rw [hU], Wd_mk (wP_left hP) hE0 hS hU hW⟩⟩ rfl rfl hl.1 rfl (lv_room (Nat.le_of_ble_eq_true rfl)) dL_isDone_228 ⟨(show 0 + 0 + 0 + 1 ≤ 80 by omega), (show 0 + 0 + 0 + 6 ≤ 480 by omega)⟩) hS (fun _ _ h => wF_mono hS.1 _ h) (fun _ h => wF_mono hS.1 _ h) (fun _ _ h => h.elim) (fun E9 ce9 q9 u9 t9 H locs ht hvm hpx hE hz hk hS1 hce hcv hcl => ?_) (fun rv228 u9 t9 H locs ht hvm hw hB hz hk hS1 => ?_)
      · skip
        have hP := hP.kept (fun k x hk9 => hk x.1 ((hP k x hk9).lt) (fun h => h))
        have hS := hS1
        rcases hE with rfl | rfl | rfl
        · refine vx_catch hown (name := "java/lang/IllegalArgumentException") [⟨15, 397, 401, 82⟩] ⟨15, 397, 405, 84⟩ [⟨15, 397, 409, 86⟩] htab9 (fun z hz9 => by
            obtain rfl := List.mem_singleton.mp hz9
            exact Or.inr ⟨by decide, "java/lang/IndexOutOfBoundsException", (hts (.classLink RL 82 "java/lang/IndexOutOfBoundsException") (by decide +kernel)), hnc.2.2.1⟩) rfl (by decide) (va_Nw.use rfl hnc.1) (va_Nw.use rfl hnest.2.2.1.2.2.2) hce hcv hcl ?_
          refine lv_astore (lv' := [(4, .ref (q9)), (3, .int (zI ((v % 2147483648 % (4 : Int)) - ((shI v 7) % 2147483648 % (2 : Int))))), (0, .ref (a 0)), (1, .int (zI (v))), (2, .int (zI (kd)))]) hx hb dL_isDone_405 hl (by decide) rfl (fun ls hl => ?_)
          refine lv_iconst (v := zI 1) hx hb dL_isDone_407 rfl ?_
          refine vx_ret ?_
          refine W.widen (k := 80) (n := 480) (by omega) (by omega) ?_
          exact W.zret (v := zI (1)) (ty := .boolean) hx hb hr (by decide +kernel) (fun t9 ht hW => ⟨⟨_, (q, σ), rfl, ⟨_, rfl, ⟨rfl, okA_mono hO (by omega) (by omega), Ev.rf σ⟩⟩, Wd_mk (wP_left hP) hE0 hS ht hW⟩, hS.F ht⟩) hS.2.2 dL_isDone_408
        · refine vx_catch hown (name := "java/lang/IllegalStateException") [⟨15, 397, 401, 82⟩, ⟨15, 397, 405, 84⟩] ⟨15, 397, 409, 86⟩ [] htab9 (fun z hz9 => by
            rcases List.mem_cons.mp hz9 with rfl | hz9
            · exact Or.inr ⟨by decide, "java/lang/IndexOutOfBoundsException", (hts (.classLink RL 82 "java/lang/IndexOutOfBoundsException") (by decide +kernel)), hnc.2.2.2.1⟩
            · obtain rfl := List.mem_singleton.mp hz9
              exact Or.inr ⟨by decide, "java/lang/IllegalArgumentException", va_Nw.use rfl hnc.1, hnc.2.2.2.2⟩) rfl (by decide) (va_Nw.use rfl hnc.2.1) (va_Nw.use rfl hnest.2.2.2.1.2.2.2) hce hcv hcl ?_
          refine lv_astore (lv' := [(4, .ref (q9)), (3, .int (zI ((v % 2147483648 % (4 : Int)) - ((shI v 7) % 2147483648 % (2 : Int))))), (0, .ref (a 0)), (1, .int (zI (v))), (2, .int (zI (kd)))]) hx hb dL_isDone_409 hl (by decide) rfl (fun ls hl => ?_)
          refine lv_iconst (v := zI 1) hx hb dL_isDone_411 rfl ?_
          refine vx_ret ?_
          refine W.widen (k := 80) (n := 480) (by omega) (by omega) ?_
          exact W.zret (v := zI (1)) (ty := .boolean) hx hb hr (by decide +kernel) (fun t9 ht hW => ⟨⟨_, (q, σ), rfl, ⟨_, rfl, ⟨rfl, okA_mono hO (by omega) (by omega), Ev.rf σ⟩⟩, Wd_mk (wP_left hP) hE0 hS ht hW⟩, hS.F ht⟩) hS.2.2 dL_isDone_412
        · refine vx_catch hown (name := "java/lang/IndexOutOfBoundsException") [] ⟨15, 397, 401, 82⟩ [⟨15, 397, 405, 84⟩, ⟨15, 397, 409, 86⟩] htab9 (fun z hz9 => by cases hz9) rfl (by decide) (hts (.classLink RL 82 "java/lang/IndexOutOfBoundsException") (by decide +kernel)) (va_Nw.use rfl hnest.2.2.2.2.2.2.2) hce hcv hcl ?_
          refine lv_astore (lv' := [(4, .ref (q9)), (3, .int (zI ((v % 2147483648 % (4 : Int)) - ((shI v 7) % 2147483648 % (2 : Int))))), (0, .ref (a 0)), (1, .int (zI (v))), (2, .int (zI (kd)))]) hx hb dL_isDone_401 hl (by decide) rfl (fun ls hl => ?_)
          refine lv_iconst (v := zI 1) hx hb dL_isDone_403 rfl ?_
          refine vx_ret ?_
          refine W.widen (k := 80) (n := 480) (by omega) (by omega) ?_
          exact W.zret (v := zI (1)) (ty := .boolean) hx hb hr (by decide +kernel) (fun t9 ht hW => ⟨⟨_, (q, σ), rfl, ⟨_, rfl, ⟨rfl, okA_mono hO (by omega) (by omega), Ev.rf σ⟩⟩, Wd_mk (wP_left hP) hE0 hS ht hW⟩, hS.F ht⟩) hS.2.2 dL_isDone_404
      · skip
        obtain ⟨qc228, σc228⟩ := u9
        have hB1 : va_P D vwCl (wld cy a qc228 σc228) t9.heap := hB.1
        rw [ht] at hB1
        obtain ⟨hP, hD⟩ := wd_join hP hD hk hB1
        try dsimp only at hw
        have hS := hS1
        obtain ⟨zc228, rfl, hz228⟩ := hw
        have hO2 : okA (t0 + 1) (σc228 1 5) qc228 σc228 := hz228.1
        have hE2 : Ev σ σc228 := hz228.2
        refine lv_pop hx hb dL_isDone_231 rfl ?_
        refine lv_goto (tgt := 398) hx hb dL_isDone_232 (by decide) ?_
        refine lv_goto (tgt := 413) hx hb dL_isDone_398 (by decide) ?_
        refine lv_iconst (v := zI 1) hx hb dL_isDone_413 rfl ?_
        refine vx_ret ?_
        refine W.widen (k := 80) (n := 480) (by omega) (by omega) ?_
        exact W.zret (v := zI (1)) (ty := .boolean) hx hb hr (by decide +kernel) (fun t9 ht hW => ⟨⟨_, (qc228, σc228), rfl, ⟨_, rfl, ⟨rfl, hO2, hE2⟩⟩, Wd_mk (wP_left hP) hE0 hS ht hW⟩, hS.F ht⟩) hS.2.2 dL_isDone_414
    · refine lv_tableIn (off := 219) (tgt := 235) hx hb dL_isDone_16 (by rw [hx16]; omega) (by rw [hx16]; omega) (by rw [hx16, cd16]; rfl) (by decide) ?_
      refine lv_aload_n hx hb dL_isDone_235 rfl (lv_at hl 1 rfl) ?_
      refine lv_iload_n hx hb dL_isDone_236 rfl (lv_at hl 2 rfl) ?_
      refine lv_iconst (v := zI 2) hx hb dL_isDone_237 rfl ?_
      refine z_ishr hx hb dL_isDone_238 ?_
      refine lv_bipush (v := zI 18) hx hb dL_isDone_239 (by decide +kernel) ?_
      refine va_calli (va_runS (As := [.int (zI (shI v 2)), .int (zI (18))]) (rest := [.ref (a 0)]) ⟨hx, hb, hml, hown, hts⟩ (c_L_below l (shI v 2) (by omega) (18) (by omega) (by first | assumption | omega)) (va_cwS 2 hts gL_isDone_L_below rfl rfl rfl (by decide +kernel) ⟨Nat.le_of_ble_eq_true rfl, Nat.le_of_ble_eq_true rfl⟩) ⟨fun _ _ _ _ h => h, fun _ _ _ => ⟨rfl, trivial⟩⟩ rfl rfl hl.1 rfl (lv_room (Nat.le_of_ble_eq_true rfl)) dL_isDone_241 ⟨(show 0 + 0 + 0 + 0 ≤ 80 by omega), (show 0 + 0 + 0 + 0 ≤ 480 by omega)⟩) hS (fun _ _ h => h.elim) (fun _ h => h.elim) (fun rv241 u9 t9 H locs ht hvm hw hB hz hk hS1 => ?_)
      have hP := hP.kept (fun k x hk9 => hk x.1 ((hP k x hk9).lt) (fun h => h))
      have hk0 : ∀ x : Nat, x < s.heap.size → H[x]? = s.heap[x]? := fun x h9 => (hk x (Nat.lt_of_lt_of_le h9 hS.1) (fun h => h)).trans (hk0 x h9)
      have hS := hS1
      obtain rfl := hw
      refine lv_iload_n hx hb dL_isDone_244 rfl (lv_at hl 2 rfl) ?_
      refine lv_iconst (v := zI 3) hx hb dL_isDone_245 rfl ?_
      refine z_ishr hx hb dL_isDone_246 ?_
      refine lv_bipush (v := zI 12) hx hb dL_isDone_247 (by decide +kernel) ?_
      refine va_calli (va_runS (As := [.int (zI (shI v 3)), .int (zI (12))]) (rest := [.int (zI ((shI v 2) % 2147483648 % (18 : Int))), .ref (a 0)]) ⟨hx, hb, hml, hown, hts⟩ (c_L_below l (shI v 3) (by omega) (12) (by omega) (by first | assumption | omega)) (va_cwS 2 hts gL_isDone_L_below rfl rfl rfl (by decide +kernel) ⟨Nat.le_of_ble_eq_true rfl, Nat.le_of_ble_eq_true rfl⟩) ⟨fun _ _ _ _ h => h, fun _ _ _ => ⟨rfl, trivial⟩⟩ rfl rfl hl.1 rfl (lv_room (Nat.le_of_ble_eq_true rfl)) dL_isDone_249 ⟨(show 0 + 0 + 0 + 0 + 0 ≤ 80 by omega), (show 0 + 0 + 0 + 0 + 0 ≤ 480 by omega)⟩) hS (fun _ _ h => h.elim) (fun _ h => h.elim) (fun rv249 u9 t9 H locs ht hvm hw hB hz hk hS1 => ?_)
      have hP := hP.kept (fun k x hk9 => hk x.1 ((hP k x hk9).lt) (fun h => h))
      have hk0 : ∀ x : Nat, x < s.heap.size → H[x]? = s.heap[x]? := fun x h9 => (hk x (Nat.lt_of_lt_of_le h9 hS.1) (fun h => h)).trans (hk0 x h9)
      have hS := hS1
      obtain rfl := hw
      refine lv_iload_n hx hb dL_isDone_252 rfl (lv_at hl 2 rfl) ?_
      refine lv_iconst (v := zI 4) hx hb dL_isDone_253 rfl ?_
      refine z_ishr hx hb dL_isDone_254 ?_
      refine lv_bipush (v := zI 24) hx hb dL_isDone_255 (by decide +kernel) ?_
      refine va_calli (va_runS (As := [.int (zI (shI v 4)), .int (zI (24))]) (rest := [.int (zI ((shI v 3) % 2147483648 % (12 : Int))), .int (zI ((shI v 2) % 2147483648 % (18 : Int))), .ref (a 0)]) ⟨hx, hb, hml, hown, hts⟩ (c_L_below l (shI v 4) (by omega) (24) (by omega) (by first | assumption | omega)) (va_cwS 2 hts gL_isDone_L_below rfl rfl rfl (by decide +kernel) ⟨Nat.le_of_ble_eq_true rfl, Nat.le_of_ble_eq_true rfl⟩) ⟨fun _ _ _ _ h => h, fun _ _ _ => ⟨rfl, trivial⟩⟩ rfl rfl hl.1 rfl (lv_room (Nat.le_of_ble_eq_true rfl)) dL_isDone_257 ⟨(show 0 + 0 + 0 + 0 + 0 + 0 ≤ 80 by omega), (show 0 + 0 + 0 + 0 + 0 + 0 ≤ 480 by omega)⟩) hS (fun _ _ h => h.elim) (fun _ h => h.elim) (fun rv257 u9 t9 H locs ht hvm hw hB hz hk hS1 => ?_)
      have hP := hP.kept (fun k x hk9 => hk x.1 ((hP k x hk9).lt) (fun h => h))
      have hk0 : ∀ x : Nat, x < s.heap.size → H[x]? = s.heap[x]? := fun x h9 => (hk x (Nat.lt_of_lt_of_le h9 hS.1) (fun h => h)).trans (hk0 x h9)
      have hS := hS1
      obtain rfl := hw
      refine vx_calli (vx_runV (As := [.int (zI ((shI v 2) % 2147483648 % (18 : Int))), .int (zI ((shI v 3) % 2147483648 % (12 : Int))), .int (zI ((shI v 4) % 2147483648 % (24 : Int)))]) (rest := []) ⟨hx, hb, hml, hown, hts⟩ (c_X7_wind l hlT D cy a q σ H.size ((shI v 2) % 2147483648 % (18 : Int)) (by omega) ((shI v 3) % 2147483648 % (12 : Int)) (by omega) ((shI v 4) % 2147483648 % (24 : Int)) (by omega) _ hO (by first | assumption | omega)) (cwV 3 hts gL_isDone_X7_wind rfl rfl rfl (by decide +kernel) ⟨Nat.le_of_ble_eq_true rfl, Nat.le_of_ble_eq_true rfl⟩) ⟨Wd_blind, va_recv hK hP (ci := 9) (q0 := 0) rfl wg_S, fun U hU hW => ⟨rfl, by rw [hU], Wd_mk (wP_left hP) hE0 hS hU hW⟩⟩ rfl rfl hl.1 rfl (lv_room (Nat.le_of_ble_eq_true rfl)) dL_isDone_260 ⟨(show 0 + 0 + 0 + 0 + 0 + 0 + 1 ≤ 80 by omega), (show 0 + 0 + 0 + 0 + 0 + 0 + 6 ≤ 480 by omega)⟩) hS (fun _ _ h => wF_mono hS.1 _ h) (fun _ h => wF_mono hS.1 _ h) (fun _ _ h => h.elim) (fun E9 ce9 q9 u9 t9 H locs ht hvm hpx hE hz hk hS1 hce hcv hcl => ?_) (fun rv260 u9 t9 H locs ht hvm hw hB hz hk hS1 => ?_)
      · skip
        have hP := hP.kept (fun k x hk9 => hk x.1 ((hP k x hk9).lt) (fun h => h))
        have hS := hS1
        rcases hE with rfl | rfl | rfl
        · refine vx_catch hown (name := "java/lang/IllegalArgumentException") [⟨15, 397, 401, 82⟩] ⟨15, 397, 405, 84⟩ [⟨15, 397, 409, 86⟩] htab9 (fun z hz9 => by
            obtain rfl := List.mem_singleton.mp hz9
            exact Or.inr ⟨by decide, "java/lang/IndexOutOfBoundsException", (hts (.classLink RL 82 "java/lang/IndexOutOfBoundsException") (by decide +kernel)), hnc.2.2.1⟩) rfl (by decide) (va_Nw.use rfl hnc.1) (va_Nw.use rfl hnest.2.2.1.2.2.2) hce hcv hcl ?_
          refine lv_astore (lv' := [(4, .ref (q9)), (3, .int (zI ((v % 2147483648 % (4 : Int)) - ((shI v 7) % 2147483648 % (2 : Int))))), (0, .ref (a 0)), (1, .int (zI (v))), (2, .int (zI (kd)))]) hx hb dL_isDone_405 hl (by decide) rfl (fun ls hl => ?_)
          refine lv_iconst (v := zI 1) hx hb dL_isDone_407 rfl ?_
          refine vx_ret ?_
          refine W.widen (k := 80) (n := 480) (by omega) (by omega) ?_
          exact W.zret (v := zI (1)) (ty := .boolean) hx hb hr (by decide +kernel) (fun t9 ht hW => ⟨⟨_, (q, σ), rfl, ⟨_, rfl, ⟨rfl, okA_mono hO (by omega) (by omega), Ev.rf σ⟩⟩, Wd_mk (wP_left hP) hE0 hS ht hW⟩, hS.F ht⟩) hS.2.2 dL_isDone_408
        · refine vx_catch hown (name := "java/lang/IllegalStateException") [⟨15, 397, 401, 82⟩, ⟨15, 397, 405, 84⟩] ⟨15, 397, 409, 86⟩ [] htab9 (fun z hz9 => by
            rcases List.mem_cons.mp hz9 with rfl | hz9
            · exact Or.inr ⟨by decide, "java/lang/IndexOutOfBoundsException", (hts (.classLink RL 82 "java/lang/IndexOutOfBoundsException") (by decide +kernel)), hnc.2.2.2.1⟩
            · obtain rfl := List.mem_singleton.mp hz9
              exact Or.inr ⟨by decide, "java/lang/IllegalArgumentException", va_Nw.use rfl hnc.1, hnc.2.2.2.2⟩) rfl (by decide) (va_Nw.use rfl hnc.2.1) (va_Nw.use rfl hnest.2.2.2.1.2.2.2) hce hcv hcl ?_
          refine lv_astore (lv' := [(4, .ref (q9)), (3, .int (zI ((v % 2147483648 % (4 : Int)) - ((shI v 7) % 2147483648 % (2 : Int))))), (0, .ref (a 0)), (1, .int (zI (v))), (2, .int (zI (kd)))]) hx hb dL_isDone_409 hl (by decide) rfl (fun ls hl => ?_)
          refine lv_iconst (v := zI 1) hx hb dL_isDone_411 rfl ?_
          refine vx_ret ?_
          refine W.widen (k := 80) (n := 480) (by omega) (by omega) ?_
          exact W.zret (v := zI (1)) (ty := .boolean) hx hb hr (by decide +kernel) (fun t9 ht hW => ⟨⟨_, (q, σ), rfl, ⟨_, rfl, ⟨rfl, okA_mono hO (by omega) (by omega), Ev.rf σ⟩⟩, Wd_mk (wP_left hP) hE0 hS ht hW⟩, hS.F ht⟩) hS.2.2 dL_isDone_412
        · refine vx_catch hown (name := "java/lang/IndexOutOfBoundsException") [] ⟨15, 397, 401, 82⟩ [⟨15, 397, 405, 84⟩, ⟨15, 397, 409, 86⟩] htab9 (fun z hz9 => by cases hz9) rfl (by decide) (hts (.classLink RL 82 "java/lang/IndexOutOfBoundsException") (by decide +kernel)) (va_Nw.use rfl hnest.2.2.2.2.2.2.2) hce hcv hcl ?_
          refine lv_astore (lv' := [(4, .ref (q9)), (3, .int (zI ((v % 2147483648 % (4 : Int)) - ((shI v 7) % 2147483648 % (2 : Int))))), (0, .ref (a 0)), (1, .int (zI (v))), (2, .int (zI (kd)))]) hx hb dL_isDone_401 hl (by decide) rfl (fun ls hl => ?_)
          refine lv_iconst (v := zI 1) hx hb dL_isDone_403 rfl ?_
          refine vx_ret ?_
          refine W.widen (k := 80) (n := 480) (by omega) (by omega) ?_
          exact W.zret (v := zI (1)) (ty := .boolean) hx hb hr (by decide +kernel) (fun t9 ht hW => ⟨⟨_, (q, σ), rfl, ⟨_, rfl, ⟨rfl, okA_mono hO (by omega) (by omega), Ev.rf σ⟩⟩, Wd_mk (wP_left hP) hE0 hS ht hW⟩, hS.F ht⟩) hS.2.2 dL_isDone_404
      · skip
        obtain ⟨qc260, σc260⟩ := u9
        have hB1 : va_P D vwCl (wld cy a qc260 σc260) t9.heap := hB.1
        rw [ht] at hB1
        obtain ⟨hP, hD⟩ := wd_join hP hD hk hB1
        try dsimp only at hw
        have hS := hS1
        obtain ⟨zc260, rfl, hz260⟩ := hw
        have hO2 : okA (t0 + 1) (σc260 1 5) qc260 σc260 := hz260.1
        have hE2 : Ev σ σc260 := hz260.2
        refine lv_pop hx hb dL_isDone_263 rfl ?_
        refine lv_goto (tgt := 398) hx hb dL_isDone_264 (by decide) ?_
        refine lv_goto (tgt := 413) hx hb dL_isDone_398 (by decide) ?_
        refine lv_iconst (v := zI 1) hx hb dL_isDone_413 rfl ?_
        refine vx_ret ?_
        refine W.widen (k := 80) (n := 480) (by omega) (by omega) ?_
        exact W.zret (v := zI (1)) (ty := .boolean) hx hb hr (by decide +kernel) (fun t9 ht hW => ⟨⟨_, (qc260, σc260), rfl, ⟨_, rfl, ⟨rfl, hO2, hE2⟩⟩, Wd_mk (wP_left hP) hE0 hS ht hW⟩, hS.F ht⟩) hS.2.2 dL_isDone_414
    · refine lv_tableIn (off := 251) (tgt := 267) hx hb dL_isDone_16 (by rw [hx16]; omega) (by rw [hx16]; omega) (by rw [hx16, cd16]; rfl) (by decide) ?_
      refine lv_aload_n hx hb dL_isDone_267 rfl (lv_at hl 1 rfl) ?_
      refine lv_iload_n hx hb dL_isDone_268 rfl (lv_at hl 2 rfl) ?_
      refine lv_iconst (v := zI 2) hx hb dL_isDone_269 rfl ?_
      refine z_ishr hx hb dL_isDone_270 ?_
      refine lv_iload_n hx hb dL_isDone_271 rfl (lv_at hl 2 rfl) ?_
      refine lv_iconst (v := zI 3) hx hb dL_isDone_272 rfl ?_
      refine z_ishr hx hb dL_isDone_273 ?_
      refine lv_iconst (v := zI 4) hx hb dL_isDone_274 rfl ?_
      refine va_calli (va_runS (As := [.int (zI (shI v 3)), .int (zI (4))]) (rest := [.int (zI (shI v 2)), .ref (a 0)]) ⟨hx, hb, hml, hown, hts⟩ (c_L_below l (shI v 3) (by omega) (4) (by omega) (by first | assumption | omega)) (va_cwS 2 hts gL_isDone_L_below rfl rfl rfl (by decide +kernel) ⟨Nat.le_of_ble_eq_true rfl, Nat.le_of_ble_eq_true rfl⟩) ⟨fun _ _ _ _ h => h, fun _ _ _ => ⟨rfl, trivial⟩⟩ rfl rfl hl.1 rfl (lv_room (Nat.le_of_ble_eq_true rfl)) dL_isDone_275 ⟨(show 0 + 0 + 0 + 0 ≤ 80 by omega), (show 0 + 0 + 0 + 0 ≤ 480 by omega)⟩) hS (fun _ _ h => h.elim) (fun _ h => h.elim) (fun rv275 u9 t9 H locs ht hvm hw hB hz hk hS1 => ?_)
      have hP := hP.kept (fun k x hk9 => hk x.1 ((hP k x hk9).lt) (fun h => h))
      have hk0 : ∀ x : Nat, x < s.heap.size → H[x]? = s.heap[x]? := fun x h9 => (hk x (Nat.lt_of_lt_of_le h9 hS.1) (fun h => h)).trans (hk0 x h9)
      have hS := hS1
      obtain rfl := hw
      refine z_if_ne (tgt := 287) hx hb dL_isDone_278 (by decide) (by omega) (fun cd278 => ?_) (fun cd278 => ?_)
      · skip
        refine lv_bipush (v := zI 9) hx hb dL_isDone_287 (by decide +kernel) ?_
        refine va_calli (va_runS (As := [.int (zI (shI v 2)), .int (zI (9))]) (rest := [.ref (a 0)]) ⟨hx, hb, hml, hown, hts⟩ (c_L_below l (shI v 2) (by omega) (9) (by omega) (by first | assumption | omega)) (va_cwS 2 hts gL_isDone_L_below rfl rfl rfl (by decide +kernel) ⟨Nat.le_of_ble_eq_true rfl, Nat.le_of_ble_eq_true rfl⟩) ⟨fun _ _ _ _ h => h, fun _ _ _ => ⟨rfl, trivial⟩⟩ rfl rfl hl.1 rfl (lv_room (Nat.le_of_ble_eq_true rfl)) dL_isDone_289 ⟨(show 0 + 0 + 0 + 0 + 0 ≤ 80 by omega), (show 0 + 0 + 0 + 0 + 0 ≤ 480 by omega)⟩) hS (fun _ _ h => h.elim) (fun _ h => h.elim) (fun rv289 u9 t9 H locs ht hvm hw hB hz hk hS1 => ?_)
        have hP := hP.kept (fun k x hk9 => hk x.1 ((hP k x hk9).lt) (fun h => h))
        have hk0 : ∀ x : Nat, x < s.heap.size → H[x]? = s.heap[x]? := fun x h9 => (hk x (Nat.lt_of_lt_of_le h9 hS.1) (fun h => h)).trans (hk0 x h9)
        have hS := hS1
        obtain rfl := hw
        refine vx_calli (vx_runV (As := [.int (zI ((shI v 2) % 2147483648 % (9 : Int)))]) (rest := []) ⟨hx, hb, hml, hown, hts⟩ (c_X7_pass l hlT D cy a q σ H.size ((shI v 2) % 2147483648 % (9 : Int)) (by omega) _ hO) (cwV 1 hts gL_isDone_X7_pass rfl rfl rfl (by decide +kernel) ⟨Nat.le_of_ble_eq_true rfl, Nat.le_of_ble_eq_true rfl⟩) ⟨Wd_blind, va_recv hK hP (ci := 9) (q0 := 0) rfl wg_S, fun U hU hW => ⟨rfl, by rw [hU], Wd_mk (wP_left hP) hE0 hS hU hW⟩⟩ rfl rfl hl.1 rfl (lv_room (Nat.le_of_ble_eq_true rfl)) dL_isDone_292 ⟨(show 0 + 0 + 0 + 0 + 0 + 1 ≤ 80 by omega), (show 0 + 0 + 0 + 0 + 0 + 6 ≤ 480 by omega)⟩) hS (fun _ _ h => wF_mono hS.1 _ h) (fun _ h => wF_mono hS.1 _ h) (fun _ _ h => h.elim) (fun E9 ce9 q9 u9 t9 H locs ht hvm hpx hE hz hk hS1 hce hcv hcl => ?_) (fun rv292 u9 t9 H locs ht hvm hw hB hz hk hS1 => ?_)
        · skip
          have hP := hP.kept (fun k x hk9 => hk x.1 ((hP k x hk9).lt) (fun h => h))
          have hS := hS1
          rcases hE with rfl | rfl | rfl
          · refine vx_catch hown (name := "java/lang/IllegalArgumentException") [⟨15, 397, 401, 82⟩] ⟨15, 397, 405, 84⟩ [⟨15, 397, 409, 86⟩] htab9 (fun z hz9 => by
              obtain rfl := List.mem_singleton.mp hz9
              exact Or.inr ⟨by decide, "java/lang/IndexOutOfBoundsException", (hts (.classLink RL 82 "java/lang/IndexOutOfBoundsException") (by decide +kernel)), hnc.2.2.1⟩) rfl (by decide) (va_Nw.use rfl hnc.1) (va_Nw.use rfl hnest.2.2.1.2.2.2) hce hcv hcl ?_
            refine lv_astore (lv' := [(4, .ref (q9)), (3, .int (zI ((v % 2147483648 % (4 : Int)) - ((shI v 7) % 2147483648 % (2 : Int))))), (0, .ref (a 0)), (1, .int (zI (v))), (2, .int (zI (kd)))]) hx hb dL_isDone_405 hl (by decide) rfl (fun ls hl => ?_)
            refine lv_iconst (v := zI 1) hx hb dL_isDone_407 rfl ?_
            refine vx_ret ?_
            refine W.widen (k := 80) (n := 480) (by omega) (by omega) ?_
            exact W.zret (v := zI (1)) (ty := .boolean) hx hb hr (by decide +kernel) (fun t9 ht hW => ⟨⟨_, (q, σ), rfl, ⟨_, rfl, ⟨rfl, okA_mono hO (by omega) (by omega), Ev.rf σ⟩⟩, Wd_mk (wP_left hP) hE0 hS ht hW⟩, hS.F ht⟩) hS.2.2 dL_isDone_408
          · refine vx_catch hown (name := "java/lang/IllegalStateException") [⟨15, 397, 401, 82⟩, ⟨15, 397, 405, 84⟩] ⟨15, 397, 409, 86⟩ [] htab9 (fun z hz9 => by
              rcases List.mem_cons.mp hz9 with rfl | hz9
              · exact Or.inr ⟨by decide, "java/lang/IndexOutOfBoundsException", (hts (.classLink RL 82 "java/lang/IndexOutOfBoundsException") (by decide +kernel)), hnc.2.2.2.1⟩
              · obtain rfl := List.mem_singleton.mp hz9
                exact Or.inr ⟨by decide, "java/lang/IllegalArgumentException", va_Nw.use rfl hnc.1, hnc.2.2.2.2⟩) rfl (by decide) (va_Nw.use rfl hnc.2.1) (va_Nw.use rfl hnest.2.2.2.1.2.2.2) hce hcv hcl ?_
            refine lv_astore (lv' := [(4, .ref (q9)), (3, .int (zI ((v % 2147483648 % (4 : Int)) - ((shI v 7) % 2147483648 % (2 : Int))))), (0, .ref (a 0)), (1, .int (zI (v))), (2, .int (zI (kd)))]) hx hb dL_isDone_409 hl (by decide) rfl (fun ls hl => ?_)
            refine lv_iconst (v := zI 1) hx hb dL_isDone_411 rfl ?_
            refine vx_ret ?_
            refine W.widen (k := 80) (n := 480) (by omega) (by omega) ?_
            exact W.zret (v := zI (1)) (ty := .boolean) hx hb hr (by decide +kernel) (fun t9 ht hW => ⟨⟨_, (q, σ), rfl, ⟨_, rfl, ⟨rfl, okA_mono hO (by omega) (by omega), Ev.rf σ⟩⟩, Wd_mk (wP_left hP) hE0 hS ht hW⟩, hS.F ht⟩) hS.2.2 dL_isDone_412
          · refine vx_catch hown (name := "java/lang/IndexOutOfBoundsException") [] ⟨15, 397, 401, 82⟩ [⟨15, 397, 405, 84⟩, ⟨15, 397, 409, 86⟩] htab9 (fun z hz9 => by cases hz9) rfl (by decide) (hts (.classLink RL 82 "java/lang/IndexOutOfBoundsException") (by decide +kernel)) (va_Nw.use rfl hnest.2.2.2.2.2.2.2) hce hcv hcl ?_
            refine lv_astore (lv' := [(4, .ref (q9)), (3, .int (zI ((v % 2147483648 % (4 : Int)) - ((shI v 7) % 2147483648 % (2 : Int))))), (0, .ref (a 0)), (1, .int (zI (v))), (2, .int (zI (kd)))]) hx hb dL_isDone_401 hl (by decide) rfl (fun ls hl => ?_)
            refine lv_iconst (v := zI 1) hx hb dL_isDone_403 rfl ?_
            refine vx_ret ?_
            refine W.widen (k := 80) (n := 480) (by omega) (by omega) ?_
            exact W.zret (v := zI (1)) (ty := .boolean) hx hb hr (by decide +kernel) (fun t9 ht hW => ⟨⟨_, (q, σ), rfl, ⟨_, rfl, ⟨rfl, okA_mono hO (by omega) (by omega), Ev.rf σ⟩⟩, Wd_mk (wP_left hP) hE0 hS ht hW⟩, hS.F ht⟩) hS.2.2 dL_isDone_404
        · skip
          obtain ⟨qc292, σc292⟩ := u9
          have hB1 : va_P D vwCl (wld cy a qc292 σc292) t9.heap := hB.1
          rw [ht] at hB1
          obtain ⟨hP, hD⟩ := wd_join hP hD hk hB1
          try dsimp only at hw
          have hS := hS1
          obtain ⟨zc292, rfl, hz292⟩ := hw
          have hO2 : okA (t0 + 1) (σc292 1 5) qc292 σc292 := by rw [hz292.1]; exact okA_mono hz292.2.1 (by omega) (by omega)
          have hE2 : Ev σ σc292 := hz292.2.2
          refine lv_pop hx hb dL_isDone_295 rfl ?_
          refine lv_goto (tgt := 398) hx hb dL_isDone_296 (by decide) ?_
          refine lv_goto (tgt := 413) hx hb dL_isDone_398 (by decide) ?_
          refine lv_iconst (v := zI 1) hx hb dL_isDone_413 rfl ?_
          refine vx_ret ?_
          refine W.widen (k := 80) (n := 480) (by omega) (by omega) ?_
          exact W.zret (v := zI (1)) (ty := .boolean) hx hb hr (by decide +kernel) (fun t9 ht hW => ⟨⟨_, (qc292, σc292), rfl, ⟨_, rfl, ⟨rfl, hO2, hE2⟩⟩, Wd_mk (wP_left hP) hE0 hS ht hW⟩, hS.F ht⟩) hS.2.2 dL_isDone_414
      · skip
        refine lv_sipush (v := zI 302) hx hb dL_isDone_281 (by decide +kernel) ?_
        refine lv_goto (tgt := 289) hx hb dL_isDone_284 (by decide) ?_
        refine va_calli (va_runS (As := [.int (zI (shI v 2)), .int (zI (302))]) (rest := [.ref (a 0)]) ⟨hx, hb, hml, hown, hts⟩ (c_L_below l (shI v 2) (by omega) (302) (by omega) (by first | assumption | omega)) (va_cwS 2 hts gL_isDone_L_below rfl rfl rfl (by decide +kernel) ⟨Nat.le_of_ble_eq_true rfl, Nat.le_of_ble_eq_true rfl⟩) ⟨fun _ _ _ _ h => h, fun _ _ _ => ⟨rfl, trivial⟩⟩ rfl rfl hl.1 rfl (lv_room (Nat.le_of_ble_eq_true rfl)) dL_isDone_289 ⟨(show 0 + 0 + 0 + 0 + 0 ≤ 80 by omega), (show 0 + 0 + 0 + 0 + 0 ≤ 480 by omega)⟩) hS (fun _ _ h => h.elim) (fun _ h => h.elim) (fun rv289 u9 t9 H locs ht hvm hw hB hz hk hS1 => ?_)
        have hP := hP.kept (fun k x hk9 => hk x.1 ((hP k x hk9).lt) (fun h => h))
        have hk0 : ∀ x : Nat, x < s.heap.size → H[x]? = s.heap[x]? := fun x h9 => (hk x (Nat.lt_of_lt_of_le h9 hS.1) (fun h => h)).trans (hk0 x h9)
        have hS := hS1
        obtain rfl := hw
        refine vx_calli (vx_runV (As := [.int (zI ((shI v 2) % 2147483648 % (302 : Int)))]) (rest := []) ⟨hx, hb, hml, hown, hts⟩ (c_X7_pass l hlT D cy a q σ H.size ((shI v 2) % 2147483648 % (302 : Int)) (by omega) _ hO) (cwV 1 hts gL_isDone_X7_pass rfl rfl rfl (by decide +kernel) ⟨Nat.le_of_ble_eq_true rfl, Nat.le_of_ble_eq_true rfl⟩) ⟨Wd_blind, va_recv hK hP (ci := 9) (q0 := 0) rfl wg_S, fun U hU hW => ⟨rfl, by rw [hU], Wd_mk (wP_left hP) hE0 hS hU hW⟩⟩ rfl rfl hl.1 rfl (lv_room (Nat.le_of_ble_eq_true rfl)) dL_isDone_292 ⟨(show 0 + 0 + 0 + 0 + 0 + 1 ≤ 80 by omega), (show 0 + 0 + 0 + 0 + 0 + 6 ≤ 480 by omega)⟩) hS (fun _ _ h => wF_mono hS.1 _ h) (fun _ h => wF_mono hS.1 _ h) (fun _ _ h => h.elim) (fun E9 ce9 q9 u9 t9 H locs ht hvm hpx hE hz hk hS1 hce hcv hcl => ?_) (fun rv292 u9 t9 H locs ht hvm hw hB hz hk hS1 => ?_)
        · skip
          have hP := hP.kept (fun k x hk9 => hk x.1 ((hP k x hk9).lt) (fun h => h))
          have hS := hS1
          rcases hE with rfl | rfl | rfl
          · refine vx_catch hown (name := "java/lang/IllegalArgumentException") [⟨15, 397, 401, 82⟩] ⟨15, 397, 405, 84⟩ [⟨15, 397, 409, 86⟩] htab9 (fun z hz9 => by
              obtain rfl := List.mem_singleton.mp hz9
              exact Or.inr ⟨by decide, "java/lang/IndexOutOfBoundsException", (hts (.classLink RL 82 "java/lang/IndexOutOfBoundsException") (by decide +kernel)), hnc.2.2.1⟩) rfl (by decide) (va_Nw.use rfl hnc.1) (va_Nw.use rfl hnest.2.2.1.2.2.2) hce hcv hcl ?_
            refine lv_astore (lv' := [(4, .ref (q9)), (3, .int (zI ((v % 2147483648 % (4 : Int)) - ((shI v 7) % 2147483648 % (2 : Int))))), (0, .ref (a 0)), (1, .int (zI (v))), (2, .int (zI (kd)))]) hx hb dL_isDone_405 hl (by decide) rfl (fun ls hl => ?_)
            refine lv_iconst (v := zI 1) hx hb dL_isDone_407 rfl ?_
            refine vx_ret ?_
            refine W.widen (k := 80) (n := 480) (by omega) (by omega) ?_
            exact W.zret (v := zI (1)) (ty := .boolean) hx hb hr (by decide +kernel) (fun t9 ht hW => ⟨⟨_, (q, σ), rfl, ⟨_, rfl, ⟨rfl, okA_mono hO (by omega) (by omega), Ev.rf σ⟩⟩, Wd_mk (wP_left hP) hE0 hS ht hW⟩, hS.F ht⟩) hS.2.2 dL_isDone_408
          · refine vx_catch hown (name := "java/lang/IllegalStateException") [⟨15, 397, 401, 82⟩, ⟨15, 397, 405, 84⟩] ⟨15, 397, 409, 86⟩ [] htab9 (fun z hz9 => by
              rcases List.mem_cons.mp hz9 with rfl | hz9
              · exact Or.inr ⟨by decide, "java/lang/IndexOutOfBoundsException", (hts (.classLink RL 82 "java/lang/IndexOutOfBoundsException") (by decide +kernel)), hnc.2.2.2.1⟩
              · obtain rfl := List.mem_singleton.mp hz9
                exact Or.inr ⟨by decide, "java/lang/IllegalArgumentException", va_Nw.use rfl hnc.1, hnc.2.2.2.2⟩) rfl (by decide) (va_Nw.use rfl hnc.2.1) (va_Nw.use rfl hnest.2.2.2.1.2.2.2) hce hcv hcl ?_
            refine lv_astore (lv' := [(4, .ref (q9)), (3, .int (zI ((v % 2147483648 % (4 : Int)) - ((shI v 7) % 2147483648 % (2 : Int))))), (0, .ref (a 0)), (1, .int (zI (v))), (2, .int (zI (kd)))]) hx hb dL_isDone_409 hl (by decide) rfl (fun ls hl => ?_)
            refine lv_iconst (v := zI 1) hx hb dL_isDone_411 rfl ?_
            refine vx_ret ?_
            refine W.widen (k := 80) (n := 480) (by omega) (by omega) ?_
            exact W.zret (v := zI (1)) (ty := .boolean) hx hb hr (by decide +kernel) (fun t9 ht hW => ⟨⟨_, (q, σ), rfl, ⟨_, rfl, ⟨rfl, okA_mono hO (by omega) (by omega), Ev.rf σ⟩⟩, Wd_mk (wP_left hP) hE0 hS ht hW⟩, hS.F ht⟩) hS.2.2 dL_isDone_412
          · refine vx_catch hown (name := "java/lang/IndexOutOfBoundsException") [] ⟨15, 397, 401, 82⟩ [⟨15, 397, 405, 84⟩, ⟨15, 397, 409, 86⟩] htab9 (fun z hz9 => by cases hz9) rfl (by decide) (hts (.classLink RL 82 "java/lang/IndexOutOfBoundsException") (by decide +kernel)) (va_Nw.use rfl hnest.2.2.2.2.2.2.2) hce hcv hcl ?_
            refine lv_astore (lv' := [(4, .ref (q9)), (3, .int (zI ((v % 2147483648 % (4 : Int)) - ((shI v 7) % 2147483648 % (2 : Int))))), (0, .ref (a 0)), (1, .int (zI (v))), (2, .int (zI (kd)))]) hx hb dL_isDone_401 hl (by decide) rfl (fun ls hl => ?_)
            refine lv_iconst (v := zI 1) hx hb dL_isDone_403 rfl ?_
            refine vx_ret ?_
            refine W.widen (k := 80) (n := 480) (by omega) (by omega) ?_
            exact W.zret (v := zI (1)) (ty := .boolean) hx hb hr (by decide +kernel) (fun t9 ht hW => ⟨⟨_, (q, σ), rfl, ⟨_, rfl, ⟨rfl, okA_mono hO (by omega) (by omega), Ev.rf σ⟩⟩, Wd_mk (wP_left hP) hE0 hS ht hW⟩, hS.F ht⟩) hS.2.2 dL_isDone_404
        · skip
          obtain ⟨qc292, σc292⟩ := u9
          have hB1 : va_P D vwCl (wld cy a qc292 σc292) t9.heap := hB.1
          rw [ht] at hB1
          obtain ⟨hP, hD⟩ := wd_join hP hD hk hB1
          try dsimp only at hw
          have hS := hS1
          obtain ⟨zc292, rfl, hz292⟩ := hw
          have hO2 : okA (t0 + 1) (σc292 1 5) qc292 σc292 := by rw [hz292.1]; exact okA_mono hz292.2.1 (by omega) (by omega)
          have hE2 : Ev σ σc292 := hz292.2.2
          refine lv_pop hx hb dL_isDone_295 rfl ?_
          refine lv_goto (tgt := 398) hx hb dL_isDone_296 (by decide) ?_
          refine lv_goto (tgt := 413) hx hb dL_isDone_398 (by decide) ?_
          refine lv_iconst (v := zI 1) hx hb dL_isDone_413 rfl ?_
          refine vx_ret ?_
          refine W.widen (k := 80) (n := 480) (by omega) (by omega) ?_
          exact W.zret (v := zI (1)) (ty := .boolean) hx hb hr (by decide +kernel) (fun t9 ht hW => ⟨⟨_, (qc292, σc292), rfl, ⟨_, rfl, ⟨rfl, hO2, hE2⟩⟩, Wd_mk (wP_left hP) hE0 hS ht hW⟩, hS.F ht⟩) hS.2.2 dL_isDone_414
    · refine lv_tableIn (off := 251) (tgt := 267) hx hb dL_isDone_16 (by rw [hx16]; omega) (by rw [hx16]; omega) (by rw [hx16, cd16]; rfl) (by decide) ?_
      refine lv_aload_n hx hb dL_isDone_267 rfl (lv_at hl 1 rfl) ?_
      refine lv_iload_n hx hb dL_isDone_268 rfl (lv_at hl 2 rfl) ?_
      refine lv_iconst (v := zI 2) hx hb dL_isDone_269 rfl ?_
      refine z_ishr hx hb dL_isDone_270 ?_
      refine lv_iload_n hx hb dL_isDone_271 rfl (lv_at hl 2 rfl) ?_
      refine lv_iconst (v := zI 3) hx hb dL_isDone_272 rfl ?_
      refine z_ishr hx hb dL_isDone_273 ?_
      refine lv_iconst (v := zI 4) hx hb dL_isDone_274 rfl ?_
      refine va_calli (va_runS (As := [.int (zI (shI v 3)), .int (zI (4))]) (rest := [.int (zI (shI v 2)), .ref (a 0)]) ⟨hx, hb, hml, hown, hts⟩ (c_L_below l (shI v 3) (by omega) (4) (by omega) (by first | assumption | omega)) (va_cwS 2 hts gL_isDone_L_below rfl rfl rfl (by decide +kernel) ⟨Nat.le_of_ble_eq_true rfl, Nat.le_of_ble_eq_true rfl⟩) ⟨fun _ _ _ _ h => h, fun _ _ _ => ⟨rfl, trivial⟩⟩ rfl rfl hl.1 rfl (lv_room (Nat.le_of_ble_eq_true rfl)) dL_isDone_275 ⟨(show 0 + 0 + 0 + 0 ≤ 80 by omega), (show 0 + 0 + 0 + 0 ≤ 480 by omega)⟩) hS (fun _ _ h => h.elim) (fun _ h => h.elim) (fun rv275 u9 t9 H locs ht hvm hw hB hz hk hS1 => ?_)
      have hP := hP.kept (fun k x hk9 => hk x.1 ((hP k x hk9).lt) (fun h => h))
      have hk0 : ∀ x : Nat, x < s.heap.size → H[x]? = s.heap[x]? := fun x h9 => (hk x (Nat.lt_of_lt_of_le h9 hS.1) (fun h => h)).trans (hk0 x h9)
      have hS := hS1
      obtain rfl := hw
      refine z_if_ne (tgt := 287) hx hb dL_isDone_278 (by decide) (by omega) (fun cd278 => ?_) (fun cd278 => ?_)
      · skip
        refine lv_bipush (v := zI 9) hx hb dL_isDone_287 (by decide +kernel) ?_
        refine va_calli (va_runS (As := [.int (zI (shI v 2)), .int (zI (9))]) (rest := [.ref (a 0)]) ⟨hx, hb, hml, hown, hts⟩ (c_L_below l (shI v 2) (by omega) (9) (by omega) (by first | assumption | omega)) (va_cwS 2 hts gL_isDone_L_below rfl rfl rfl (by decide +kernel) ⟨Nat.le_of_ble_eq_true rfl, Nat.le_of_ble_eq_true rfl⟩) ⟨fun _ _ _ _ h => h, fun _ _ _ => ⟨rfl, trivial⟩⟩ rfl rfl hl.1 rfl (lv_room (Nat.le_of_ble_eq_true rfl)) dL_isDone_289 ⟨(show 0 + 0 + 0 + 0 + 0 ≤ 80 by omega), (show 0 + 0 + 0 + 0 + 0 ≤ 480 by omega)⟩) hS (fun _ _ h => h.elim) (fun _ h => h.elim) (fun rv289 u9 t9 H locs ht hvm hw hB hz hk hS1 => ?_)
        have hP := hP.kept (fun k x hk9 => hk x.1 ((hP k x hk9).lt) (fun h => h))
        have hk0 : ∀ x : Nat, x < s.heap.size → H[x]? = s.heap[x]? := fun x h9 => (hk x (Nat.lt_of_lt_of_le h9 hS.1) (fun h => h)).trans (hk0 x h9)
        have hS := hS1
        obtain rfl := hw
        refine vx_calli (vx_runV (As := [.int (zI ((shI v 2) % 2147483648 % (9 : Int)))]) (rest := []) ⟨hx, hb, hml, hown, hts⟩ (c_X7_pass l hlT D cy a q σ H.size ((shI v 2) % 2147483648 % (9 : Int)) (by omega) _ hO) (cwV 1 hts gL_isDone_X7_pass rfl rfl rfl (by decide +kernel) ⟨Nat.le_of_ble_eq_true rfl, Nat.le_of_ble_eq_true rfl⟩) ⟨Wd_blind, va_recv hK hP (ci := 9) (q0 := 0) rfl wg_S, fun U hU hW => ⟨rfl, by rw [hU], Wd_mk (wP_left hP) hE0 hS hU hW⟩⟩ rfl rfl hl.1 rfl (lv_room (Nat.le_of_ble_eq_true rfl)) dL_isDone_292 ⟨(show 0 + 0 + 0 + 0 + 0 + 1 ≤ 80 by omega), (show 0 + 0 + 0 + 0 + 0 + 6 ≤ 480 by omega)⟩) hS (fun _ _ h => wF_mono hS.1 _ h) (fun _ h => wF_mono hS.1 _ h) (fun _ _ h => h.elim) (fun E9 ce9 q9 u9 t9 H locs ht hvm hpx hE hz hk hS1 hce hcv hcl => ?_) (fun rv292 u9 t9 H locs ht hvm hw hB hz hk hS1 => ?_)
        · skip
          have hP := hP.kept (fun k x hk9 => hk x.1 ((hP k x hk9).lt) (fun h => h))
          have hS := hS1
          rcases hE with rfl | rfl | rfl
          · refine vx_catch hown (name := "java/lang/IllegalArgumentException") [⟨15, 397, 401, 82⟩] ⟨15, 397, 405, 84⟩ [⟨15, 397, 409, 86⟩] htab9 (fun z hz9 => by
              obtain rfl := List.mem_singleton.mp hz9
              exact Or.inr ⟨by decide, "java/lang/IndexOutOfBoundsException", (hts (.classLink RL 82 "java/lang/IndexOutOfBoundsException") (by decide +kernel)), hnc.2.2.1⟩) rfl (by decide) (va_Nw.use rfl hnc.1) (va_Nw.use rfl hnest.2.2.1.2.2.2) hce hcv hcl ?_
            refine lv_astore (lv' := [(4, .ref (q9)), (3, .int (zI ((v % 2147483648 % (4 : Int)) - ((shI v 7) % 2147483648 % (2 : Int))))), (0, .ref (a 0)), (1, .int (zI (v))), (2, .int (zI (kd)))]) hx hb dL_isDone_405 hl (by decide) rfl (fun ls hl => ?_)
            refine lv_iconst (v := zI 1) hx hb dL_isDone_407 rfl ?_
            refine vx_ret ?_
            refine W.widen (k := 80) (n := 480) (by omega) (by omega) ?_
            exact W.zret (v := zI (1)) (ty := .boolean) hx hb hr (by decide +kernel) (fun t9 ht hW => ⟨⟨_, (q, σ), rfl, ⟨_, rfl, ⟨rfl, okA_mono hO (by omega) (by omega), Ev.rf σ⟩⟩, Wd_mk (wP_left hP) hE0 hS ht hW⟩, hS.F ht⟩) hS.2.2 dL_isDone_408
          · refine vx_catch hown (name := "java/lang/IllegalStateException") [⟨15, 397, 401, 82⟩, ⟨15, 397, 405, 84⟩] ⟨15, 397, 409, 86⟩ [] htab9 (fun z hz9 => by
              rcases List.mem_cons.mp hz9 with rfl | hz9
              · exact Or.inr ⟨by decide, "java/lang/IndexOutOfBoundsException", (hts (.classLink RL 82 "java/lang/IndexOutOfBoundsException") (by decide +kernel)), hnc.2.2.2.1⟩
              · obtain rfl := List.mem_singleton.mp hz9
                exact Or.inr ⟨by decide, "java/lang/IllegalArgumentException", va_Nw.use rfl hnc.1, hnc.2.2.2.2⟩) rfl (by decide) (va_Nw.use rfl hnc.2.1) (va_Nw.use rfl hnest.2.2.2.1.2.2.2) hce hcv hcl ?_
            refine lv_astore (lv' := [(4, .ref (q9)), (3, .int (zI ((v % 2147483648 % (4 : Int)) - ((shI v 7) % 2147483648 % (2 : Int))))), (0, .ref (a 0)), (1, .int (zI (v))), (2, .int (zI (kd)))]) hx hb dL_isDone_409 hl (by decide) rfl (fun ls hl => ?_)
            refine lv_iconst (v := zI 1) hx hb dL_isDone_411 rfl ?_
            refine vx_ret ?_
            refine W.widen (k := 80) (n := 480) (by omega) (by omega) ?_
            exact W.zret (v := zI (1)) (ty := .boolean) hx hb hr (by decide +kernel) (fun t9 ht hW => ⟨⟨_, (q, σ), rfl, ⟨_, rfl, ⟨rfl, okA_mono hO (by omega) (by omega), Ev.rf σ⟩⟩, Wd_mk (wP_left hP) hE0 hS ht hW⟩, hS.F ht⟩) hS.2.2 dL_isDone_412
          · refine vx_catch hown (name := "java/lang/IndexOutOfBoundsException") [] ⟨15, 397, 401, 82⟩ [⟨15, 397, 405, 84⟩, ⟨15, 397, 409, 86⟩] htab9 (fun z hz9 => by cases hz9) rfl (by decide) (hts (.classLink RL 82 "java/lang/IndexOutOfBoundsException") (by decide +kernel)) (va_Nw.use rfl hnest.2.2.2.2.2.2.2) hce hcv hcl ?_
            refine lv_astore (lv' := [(4, .ref (q9)), (3, .int (zI ((v % 2147483648 % (4 : Int)) - ((shI v 7) % 2147483648 % (2 : Int))))), (0, .ref (a 0)), (1, .int (zI (v))), (2, .int (zI (kd)))]) hx hb dL_isDone_401 hl (by decide) rfl (fun ls hl => ?_)
            refine lv_iconst (v := zI 1) hx hb dL_isDone_403 rfl ?_
            refine vx_ret ?_
            refine W.widen (k := 80) (n := 480) (by omega) (by omega) ?_
            exact W.zret (v := zI (1)) (ty := .boolean) hx hb hr (by decide +kernel) (fun t9 ht hW => ⟨⟨_, (q, σ), rfl, ⟨_, rfl, ⟨rfl, okA_mono hO (by omega) (by omega), Ev.rf σ⟩⟩, Wd_mk (wP_left hP) hE0 hS ht hW⟩, hS.F ht⟩) hS.2.2 dL_isDone_404
        · skip
          obtain ⟨qc292, σc292⟩ := u9
          have hB1 : va_P D vwCl (wld cy a qc292 σc292) t9.heap := hB.1
          rw [ht] at hB1
          obtain ⟨hP, hD⟩ := wd_join hP hD hk hB1
          try dsimp only at hw
          have hS := hS1
          obtain ⟨zc292, rfl, hz292⟩ := hw
          have hO2 : okA (t0 + 1) (σc292 1 5) qc292 σc292 := by rw [hz292.1]; exact okA_mono hz292.2.1 (by omega) (by omega)
          have hE2 : Ev σ σc292 := hz292.2.2
          refine lv_pop hx hb dL_isDone_295 rfl ?_
          refine lv_goto (tgt := 398) hx hb dL_isDone_296 (by decide) ?_
          refine lv_goto (tgt := 413) hx hb dL_isDone_398 (by decide) ?_
          refine lv_iconst (v := zI 1) hx hb dL_isDone_413 rfl ?_
          refine vx_ret ?_
          refine W.widen (k := 80) (n := 480) (by omega) (by omega) ?_
          exact W.zret (v := zI (1)) (ty := .boolean) hx hb hr (by decide +kernel) (fun t9 ht hW => ⟨⟨_, (qc292, σc292), rfl, ⟨_, rfl, ⟨rfl, hO2, hE2⟩⟩, Wd_mk (wP_left hP) hE0 hS ht hW⟩, hS.F ht⟩) hS.2.2 dL_isDone_414
      · skip
        refine lv_sipush (v := zI 302) hx hb dL_isDone_281 (by decide +kernel) ?_
        refine lv_goto (tgt := 289) hx hb dL_isDone_284 (by decide) ?_
        refine va_calli (va_runS (As := [.int (zI (shI v 2)), .int (zI (302))]) (rest := [.ref (a 0)]) ⟨hx, hb, hml, hown, hts⟩ (c_L_below l (shI v 2) (by omega) (302) (by omega) (by first | assumption | omega)) (va_cwS 2 hts gL_isDone_L_below rfl rfl rfl (by decide +kernel) ⟨Nat.le_of_ble_eq_true rfl, Nat.le_of_ble_eq_true rfl⟩) ⟨fun _ _ _ _ h => h, fun _ _ _ => ⟨rfl, trivial⟩⟩ rfl rfl hl.1 rfl (lv_room (Nat.le_of_ble_eq_true rfl)) dL_isDone_289 ⟨(show 0 + 0 + 0 + 0 + 0 ≤ 80 by omega), (show 0 + 0 + 0 + 0 + 0 ≤ 480 by omega)⟩) hS (fun _ _ h => h.elim) (fun _ h => h.elim) (fun rv289 u9 t9 H locs ht hvm hw hB hz hk hS1 => ?_)
        have hP := hP.kept (fun k x hk9 => hk x.1 ((hP k x hk9).lt) (fun h => h))
        have hk0 : ∀ x : Nat, x < s.heap.size → H[x]? = s.heap[x]? := fun x h9 => (hk x (Nat.lt_of_lt_of_le h9 hS.1) (fun h => h)).trans (hk0 x h9)
        have hS := hS1
        obtain rfl := hw
        refine vx_calli (vx_runV (As := [.int (zI ((shI v 2) % 2147483648 % (302 : Int)))]) (rest := []) ⟨hx, hb, hml, hown, hts⟩ (c_X7_pass l hlT D cy a q σ H.size ((shI v 2) % 2147483648 % (302 : Int)) (by omega) _ hO) (cwV 1 hts gL_isDone_X7_pass rfl rfl rfl (by decide +kernel) ⟨Nat.le_of_ble_eq_true rfl, Nat.le_of_ble_eq_true rfl⟩) ⟨Wd_blind, va_recv hK hP (ci := 9) (q0 := 0) rfl wg_S, fun U hU hW => ⟨rfl, by rw [hU], Wd_mk (wP_left hP) hE0 hS hU hW⟩⟩ rfl rfl hl.1 rfl (lv_room (Nat.le_of_ble_eq_true rfl)) dL_isDone_292 ⟨(show 0 + 0 + 0 + 0 + 0 + 1 ≤ 80 by omega), (show 0 + 0 + 0 + 0 + 0 + 6 ≤ 480 by omega)⟩) hS (fun _ _ h => wF_mono hS.1 _ h) (fun _ h => wF_mono hS.1 _ h) (fun _ _ h => h.elim) (fun E9 ce9 q9 u9 t9 H locs ht hvm hpx hE hz hk hS1 hce hcv hcl => ?_) (fun rv292 u9 t9 H locs ht hvm hw hB hz hk hS1 => ?_)
        · skip
          have hP := hP.kept (fun k x hk9 => hk x.1 ((hP k x hk9).lt) (fun h => h))
          have hS := hS1
          rcases hE with rfl | rfl | rfl
          · refine vx_catch hown (name := "java/lang/IllegalArgumentException") [⟨15, 397, 401, 82⟩] ⟨15, 397, 405, 84⟩ [⟨15, 397, 409, 86⟩] htab9 (fun z hz9 => by
              obtain rfl := List.mem_singleton.mp hz9
              exact Or.inr ⟨by decide, "java/lang/IndexOutOfBoundsException", (hts (.classLink RL 82 "java/lang/IndexOutOfBoundsException") (by decide +kernel)), hnc.2.2.1⟩) rfl (by decide) (va_Nw.use rfl hnc.1) (va_Nw.use rfl hnest.2.2.1.2.2.2) hce hcv hcl ?_
            refine lv_astore (lv' := [(4, .ref (q9)), (3, .int (zI ((v % 2147483648 % (4 : Int)) - ((shI v 7) % 2147483648 % (2 : Int))))), (0, .ref (a 0)), (1, .int (zI (v))), (2, .int (zI (kd)))]) hx hb dL_isDone_405 hl (by decide) rfl (fun ls hl => ?_)
            refine lv_iconst (v := zI 1) hx hb dL_isDone_407 rfl ?_
            refine vx_ret ?_
            refine W.widen (k := 80) (n := 480) (by omega) (by omega) ?_
            exact W.zret (v := zI (1)) (ty := .boolean) hx hb hr (by decide +kernel) (fun t9 ht hW => ⟨⟨_, (q, σ), rfl, ⟨_, rfl, ⟨rfl, okA_mono hO (by omega) (by omega), Ev.rf σ⟩⟩, Wd_mk (wP_left hP) hE0 hS ht hW⟩, hS.F ht⟩) hS.2.2 dL_isDone_408
          · refine vx_catch hown (name := "java/lang/IllegalStateException") [⟨15, 397, 401, 82⟩, ⟨15, 397, 405, 84⟩] ⟨15, 397, 409, 86⟩ [] htab9 (fun z hz9 => by
              rcases List.mem_cons.mp hz9 with rfl | hz9
              · exact Or.inr ⟨by decide, "java/lang/IndexOutOfBoundsException", (hts (.classLink RL 82 "java/lang/IndexOutOfBoundsException") (by decide +kernel)), hnc.2.2.2.1⟩
              · obtain rfl := List.mem_singleton.mp hz9
                exact Or.inr ⟨by decide, "java/lang/IllegalArgumentException", va_Nw.use rfl hnc.1, hnc.2.2.2.2⟩) rfl (by decide) (va_Nw.use rfl hnc.2.1) (va_Nw.use rfl hnest.2.2.2.1.2.2.2) hce hcv hcl ?_
            refine lv_astore (lv' := [(4, .ref (q9)), (3, .int (zI ((v % 2147483648 % (4 : Int)) - ((shI v 7) % 2147483648 % (2 : Int))))), (0, .ref (a 0)), (1, .int (zI (v))), (2, .int (zI (kd)))]) hx hb dL_isDone_409 hl (by decide) rfl (fun ls hl => ?_)
            refine lv_iconst (v := zI 1) hx hb dL_isDone_411 rfl ?_
            refine vx_ret ?_
            refine W.widen (k := 80) (n := 480) (by omega) (by omega) ?_
            exact W.zret (v := zI (1)) (ty := .boolean) hx hb hr (by decide +kernel) (fun t9 ht hW => ⟨⟨_, (q, σ), rfl, ⟨_, rfl, ⟨rfl, okA_mono hO (by omega) (by omega), Ev.rf σ⟩⟩, Wd_mk (wP_left hP) hE0 hS ht hW⟩, hS.F ht⟩) hS.2.2 dL_isDone_412
          · refine vx_catch hown (name := "java/lang/IndexOutOfBoundsException") [] ⟨15, 397, 401, 82⟩ [⟨15, 397, 405, 84⟩, ⟨15, 397, 409, 86⟩] htab9 (fun z hz9 => by cases hz9) rfl (by decide) (hts (.classLink RL 82 "java/lang/IndexOutOfBoundsException") (by decide +kernel)) (va_Nw.use rfl hnest.2.2.2.2.2.2.2) hce hcv hcl ?_
            refine lv_astore (lv' := [(4, .ref (q9)), (3, .int (zI ((v % 2147483648 % (4 : Int)) - ((shI v 7) % 2147483648 % (2 : Int))))), (0, .ref (a 0)), (1, .int (zI (v))), (2, .int (zI (kd)))]) hx hb dL_isDone_401 hl (by decide) rfl (fun ls hl => ?_)
            refine lv_iconst (v := zI 1) hx hb dL_isDone_403 rfl ?_
            refine vx_ret ?_
            refine W.widen (k := 80) (n := 480) (by omega) (by omega) ?_
            exact W.zret (v := zI (1)) (ty := .boolean) hx hb hr (by decide +kernel) (fun t9 ht hW => ⟨⟨_, (q, σ), rfl, ⟨_, rfl, ⟨rfl, okA_mono hO (by omega) (by omega), Ev.rf σ⟩⟩, Wd_mk (wP_left hP) hE0 hS ht hW⟩, hS.F ht⟩) hS.2.2 dL_isDone_404
        · skip
          obtain ⟨qc292, σc292⟩ := u9
          have hB1 : va_P D vwCl (wld cy a qc292 σc292) t9.heap := hB.1
          rw [ht] at hB1
          obtain ⟨hP, hD⟩ := wd_join hP hD hk hB1
          try dsimp only at hw
          have hS := hS1
          obtain ⟨zc292, rfl, hz292⟩ := hw
          have hO2 : okA (t0 + 1) (σc292 1 5) qc292 σc292 := by rw [hz292.1]; exact okA_mono hz292.2.1 (by omega) (by omega)
          have hE2 : Ev σ σc292 := hz292.2.2
          refine lv_pop hx hb dL_isDone_295 rfl ?_
          refine lv_goto (tgt := 398) hx hb dL_isDone_296 (by decide) ?_
          refine lv_goto (tgt := 413) hx hb dL_isDone_398 (by decide) ?_
          refine lv_iconst (v := zI 1) hx hb dL_isDone_413 rfl ?_
          refine vx_ret ?_
          refine W.widen (k := 80) (n := 480) (by omega) (by omega) ?_
          exact W.zret (v := zI (1)) (ty := .boolean) hx hb hr (by decide +kernel) (fun t9 ht hW => ⟨⟨_, (qc292, σc292), rfl, ⟨_, rfl, ⟨rfl, hO2, hE2⟩⟩, Wd_mk (wP_left hP) hE0 hS ht hW⟩, hS.F ht⟩) hS.2.2 dL_isDone_414
    · refine lv_tableIn (off := 283) (tgt := 299) hx hb dL_isDone_16 (by rw [hx16]; omega) (by rw [hx16]; omega) (by rw [hx16, cd16]; rfl) (by decide) ?_
      refine lv_aload_n hx hb dL_isDone_299 rfl (lv_at hl 1 rfl) ?_
      refine lv_iload_n hx hb dL_isDone_300 rfl (lv_at hl 0 rfl) ?_
      refine lv_iload_n hx hb dL_isDone_301 rfl (lv_at hl 2 rfl) ?_
      refine lv_iconst (v := zI 2) hx hb dL_isDone_302 rfl ?_
      refine z_ishr hx hb dL_isDone_303 ?_
      refine lv_iconst (v := zI 4) hx hb dL_isDone_304 rfl ?_
      refine va_calli (va_runS (As := [.int (zI (shI v 2)), .int (zI (4))]) (rest := [.int (zI ((v % 2147483648 % (4 : Int)) - ((shI v 7) % 2147483648 % (2 : Int)))), .ref (a 0)]) ⟨hx, hb, hml, hown, hts⟩ (c_L_below l (shI v 2) (by omega) (4) (by omega) (by first | assumption | omega)) (va_cwS 2 hts gL_isDone_L_below rfl rfl rfl (by decide +kernel) ⟨Nat.le_of_ble_eq_true rfl, Nat.le_of_ble_eq_true rfl⟩) ⟨fun _ _ _ _ h => h, fun _ _ _ => ⟨rfl, trivial⟩⟩ rfl rfl hl.1 rfl (lv_room (Nat.le_of_ble_eq_true rfl)) dL_isDone_305 ⟨(show 0 + 0 + 0 + 0 ≤ 80 by omega), (show 0 + 0 + 0 + 0 ≤ 480 by omega)⟩) hS (fun _ _ h => h.elim) (fun _ h => h.elim) (fun rv305 u9 t9 H locs ht hvm hw hB hz hk hS1 => ?_)
      have hP := hP.kept (fun k x hk9 => hk x.1 ((hP k x hk9).lt) (fun h => h))
      have hk0 : ∀ x : Nat, x < s.heap.size → H[x]? = s.heap[x]? := fun x h9 => (hk x (Nat.lt_of_lt_of_le h9 hS.1) (fun h => h)).trans (hk0 x h9)
      have hS := hS1
      obtain rfl := hw
      refine z_if_le (tgt := 315) hx hb dL_isDone_308 (by decide) (by omega) (fun cd308 => ?_) (fun cd308 => ?_)
      · skip
        refine lv_iconst (v := zI 0) hx hb dL_isDone_315 rfl ?_
        refine vx_calli (vx_runV (As := [.int (zI ((v % 2147483648 % (4 : Int)) - ((shI v 7) % 2147483648 % (2 : Int)))), .int (zI (0))]) (rest := []) ⟨hx, hb, hml, hown, hts⟩ (c_X7_lock l hlT D cy a q σ H.size ((v % 2147483648 % (4 : Int)) - ((shI v 7) % 2147483648 % (2 : Int))) (by omega) (0) (by omega) _ hO (by first | assumption | omega)) (cwV 2 hts gL_isDone_X7_lock rfl rfl rfl (by decide +kernel) ⟨Nat.le_of_ble_eq_true rfl, Nat.le_of_ble_eq_true rfl⟩) ⟨Wd_blind, va_recv hK hP (ci := 9) (q0 := 0) rfl wg_S, fun U hU hW => ⟨rfl, by rw [hU], Wd_mk (wP_left hP) hE0 hS hU hW⟩⟩ rfl rfl hl.1 rfl (lv_room (Nat.le_of_ble_eq_true rfl)) dL_isDone_316 ⟨(show 0 + 0 + 0 + 0 + 2 ≤ 80 by omega), (show 0 + 0 + 0 + 0 + 12 ≤ 480 by omega)⟩) hS (fun _ _ h => wF_mono hS.1 _ h) (fun _ h => wF_mono hS.1 _ h) (fun _ _ h => h.elim) (fun E9 ce9 q9 u9 t9 H locs ht hvm hpx hE hz hk hS1 hce hcv hcl => ?_) (fun rv316 u9 t9 H locs ht hvm hw hB hz hk hS1 => ?_)
        · skip
          have hP := hP.kept (fun k x hk9 => hk x.1 ((hP k x hk9).lt) (fun h => h))
          have hS := hS1
          rcases hE with rfl | rfl | rfl
          · refine vx_catch hown (name := "java/lang/IllegalArgumentException") [⟨15, 397, 401, 82⟩] ⟨15, 397, 405, 84⟩ [⟨15, 397, 409, 86⟩] htab9 (fun z hz9 => by
              obtain rfl := List.mem_singleton.mp hz9
              exact Or.inr ⟨by decide, "java/lang/IndexOutOfBoundsException", (hts (.classLink RL 82 "java/lang/IndexOutOfBoundsException") (by decide +kernel)), hnc.2.2.1⟩) rfl (by decide) (va_Nw.use rfl hnc.1) (va_Nw.use rfl hnest.2.2.1.2.2.2) hce hcv hcl ?_
            refine lv_astore (lv' := [(4, .ref (q9)), (3, .int (zI ((v % 2147483648 % (4 : Int)) - ((shI v 7) % 2147483648 % (2 : Int))))), (0, .ref (a 0)), (1, .int (zI (v))), (2, .int (zI (kd)))]) hx hb dL_isDone_405 hl (by decide) rfl (fun ls hl => ?_)
            refine lv_iconst (v := zI 1) hx hb dL_isDone_407 rfl ?_
            refine vx_ret ?_
            refine W.widen (k := 80) (n := 480) (by omega) (by omega) ?_
            exact W.zret (v := zI (1)) (ty := .boolean) hx hb hr (by decide +kernel) (fun t9 ht hW => ⟨⟨_, (q, σ), rfl, ⟨_, rfl, ⟨rfl, okA_mono hO (by omega) (by omega), Ev.rf σ⟩⟩, Wd_mk (wP_left hP) hE0 hS ht hW⟩, hS.F ht⟩) hS.2.2 dL_isDone_408
          · refine vx_catch hown (name := "java/lang/IllegalStateException") [⟨15, 397, 401, 82⟩, ⟨15, 397, 405, 84⟩] ⟨15, 397, 409, 86⟩ [] htab9 (fun z hz9 => by
              rcases List.mem_cons.mp hz9 with rfl | hz9
              · exact Or.inr ⟨by decide, "java/lang/IndexOutOfBoundsException", (hts (.classLink RL 82 "java/lang/IndexOutOfBoundsException") (by decide +kernel)), hnc.2.2.2.1⟩
              · obtain rfl := List.mem_singleton.mp hz9
                exact Or.inr ⟨by decide, "java/lang/IllegalArgumentException", va_Nw.use rfl hnc.1, hnc.2.2.2.2⟩) rfl (by decide) (va_Nw.use rfl hnc.2.1) (va_Nw.use rfl hnest.2.2.2.1.2.2.2) hce hcv hcl ?_
            refine lv_astore (lv' := [(4, .ref (q9)), (3, .int (zI ((v % 2147483648 % (4 : Int)) - ((shI v 7) % 2147483648 % (2 : Int))))), (0, .ref (a 0)), (1, .int (zI (v))), (2, .int (zI (kd)))]) hx hb dL_isDone_409 hl (by decide) rfl (fun ls hl => ?_)
            refine lv_iconst (v := zI 1) hx hb dL_isDone_411 rfl ?_
            refine vx_ret ?_
            refine W.widen (k := 80) (n := 480) (by omega) (by omega) ?_
            exact W.zret (v := zI (1)) (ty := .boolean) hx hb hr (by decide +kernel) (fun t9 ht hW => ⟨⟨_, (q, σ), rfl, ⟨_, rfl, ⟨rfl, okA_mono hO (by omega) (by omega), Ev.rf σ⟩⟩, Wd_mk (wP_left hP) hE0 hS ht hW⟩, hS.F ht⟩) hS.2.2 dL_isDone_412
          · refine vx_catch hown (name := "java/lang/IndexOutOfBoundsException") [] ⟨15, 397, 401, 82⟩ [⟨15, 397, 405, 84⟩, ⟨15, 397, 409, 86⟩] htab9 (fun z hz9 => by cases hz9) rfl (by decide) (hts (.classLink RL 82 "java/lang/IndexOutOfBoundsException") (by decide +kernel)) (va_Nw.use rfl hnest.2.2.2.2.2.2.2) hce hcv hcl ?_
            refine lv_astore (lv' := [(4, .ref (q9)), (3, .int (zI ((v % 2147483648 % (4 : Int)) - ((shI v 7) % 2147483648 % (2 : Int))))), (0, .ref (a 0)), (1, .int (zI (v))), (2, .int (zI (kd)))]) hx hb dL_isDone_401 hl (by decide) rfl (fun ls hl => ?_)
            refine lv_iconst (v := zI 1) hx hb dL_isDone_403 rfl ?_
            refine vx_ret ?_
            refine W.widen (k := 80) (n := 480) (by omega) (by omega) ?_
            exact W.zret (v := zI (1)) (ty := .boolean) hx hb hr (by decide +kernel) (fun t9 ht hW => ⟨⟨_, (q, σ), rfl, ⟨_, rfl, ⟨rfl, okA_mono hO (by omega) (by omega), Ev.rf σ⟩⟩, Wd_mk (wP_left hP) hE0 hS ht hW⟩, hS.F ht⟩) hS.2.2 dL_isDone_404
        · skip
          obtain ⟨qc316, σc316⟩ := u9
          have hB1 : va_P D vwCl (wld cy a qc316 σc316) t9.heap := hB.1
          rw [ht] at hB1
          obtain ⟨hP, hD⟩ := wd_join hP hD hk hB1
          try dsimp only at hw
          have hS := hS1
          obtain ⟨zc316, rfl, hz316⟩ := hw
          have hO2 : okA (t0 + 1) (σc316 1 5) qc316 σc316 := hz316.1
          have hE2 : Ev σ σc316 := hz316.2
          refine lv_pop hx hb dL_isDone_319 rfl ?_
          refine lv_goto (tgt := 398) hx hb dL_isDone_320 (by decide) ?_
          refine lv_goto (tgt := 413) hx hb dL_isDone_398 (by decide) ?_
          refine lv_iconst (v := zI 1) hx hb dL_isDone_413 rfl ?_
          refine vx_ret ?_
          refine W.widen (k := 80) (n := 480) (by omega) (by omega) ?_
          exact W.zret (v := zI (1)) (ty := .boolean) hx hb hr (by decide +kernel) (fun t9 ht hW => ⟨⟨_, (qc316, σc316), rfl, ⟨_, rfl, ⟨rfl, hO2, hE2⟩⟩, Wd_mk (wP_left hP) hE0 hS ht hW⟩, hS.F ht⟩) hS.2.2 dL_isDone_414
      · skip
        refine lv_iconst (v := zI 1) hx hb dL_isDone_311 rfl ?_
        refine lv_goto (tgt := 316) hx hb dL_isDone_312 (by decide) ?_
        refine vx_calli (vx_runV (As := [.int (zI ((v % 2147483648 % (4 : Int)) - ((shI v 7) % 2147483648 % (2 : Int)))), .int (zI (1))]) (rest := []) ⟨hx, hb, hml, hown, hts⟩ (c_X7_lock l hlT D cy a q σ H.size ((v % 2147483648 % (4 : Int)) - ((shI v 7) % 2147483648 % (2 : Int))) (by omega) (1) (by omega) _ hO (by first | assumption | omega)) (cwV 2 hts gL_isDone_X7_lock rfl rfl rfl (by decide +kernel) ⟨Nat.le_of_ble_eq_true rfl, Nat.le_of_ble_eq_true rfl⟩) ⟨Wd_blind, va_recv hK hP (ci := 9) (q0 := 0) rfl wg_S, fun U hU hW => ⟨rfl, by rw [hU], Wd_mk (wP_left hP) hE0 hS hU hW⟩⟩ rfl rfl hl.1 rfl (lv_room (Nat.le_of_ble_eq_true rfl)) dL_isDone_316 ⟨(show 0 + 0 + 0 + 0 + 2 ≤ 80 by omega), (show 0 + 0 + 0 + 0 + 12 ≤ 480 by omega)⟩) hS (fun _ _ h => wF_mono hS.1 _ h) (fun _ h => wF_mono hS.1 _ h) (fun _ _ h => h.elim) (fun E9 ce9 q9 u9 t9 H locs ht hvm hpx hE hz hk hS1 hce hcv hcl => ?_) (fun rv316 u9 t9 H locs ht hvm hw hB hz hk hS1 => ?_)
        · skip
          have hP := hP.kept (fun k x hk9 => hk x.1 ((hP k x hk9).lt) (fun h => h))
          have hS := hS1
          rcases hE with rfl | rfl | rfl
          · refine vx_catch hown (name := "java/lang/IllegalArgumentException") [⟨15, 397, 401, 82⟩] ⟨15, 397, 405, 84⟩ [⟨15, 397, 409, 86⟩] htab9 (fun z hz9 => by
              obtain rfl := List.mem_singleton.mp hz9
              exact Or.inr ⟨by decide, "java/lang/IndexOutOfBoundsException", (hts (.classLink RL 82 "java/lang/IndexOutOfBoundsException") (by decide +kernel)), hnc.2.2.1⟩) rfl (by decide) (va_Nw.use rfl hnc.1) (va_Nw.use rfl hnest.2.2.1.2.2.2) hce hcv hcl ?_
            refine lv_astore (lv' := [(4, .ref (q9)), (3, .int (zI ((v % 2147483648 % (4 : Int)) - ((shI v 7) % 2147483648 % (2 : Int))))), (0, .ref (a 0)), (1, .int (zI (v))), (2, .int (zI (kd)))]) hx hb dL_isDone_405 hl (by decide) rfl (fun ls hl => ?_)
            refine lv_iconst (v := zI 1) hx hb dL_isDone_407 rfl ?_
            refine vx_ret ?_
            refine W.widen (k := 80) (n := 480) (by omega) (by omega) ?_
            exact W.zret (v := zI (1)) (ty := .boolean) hx hb hr (by decide +kernel) (fun t9 ht hW => ⟨⟨_, (q, σ), rfl, ⟨_, rfl, ⟨rfl, okA_mono hO (by omega) (by omega), Ev.rf σ⟩⟩, Wd_mk (wP_left hP) hE0 hS ht hW⟩, hS.F ht⟩) hS.2.2 dL_isDone_408
          · refine vx_catch hown (name := "java/lang/IllegalStateException") [⟨15, 397, 401, 82⟩, ⟨15, 397, 405, 84⟩] ⟨15, 397, 409, 86⟩ [] htab9 (fun z hz9 => by
              rcases List.mem_cons.mp hz9 with rfl | hz9
              · exact Or.inr ⟨by decide, "java/lang/IndexOutOfBoundsException", (hts (.classLink RL 82 "java/lang/IndexOutOfBoundsException") (by decide +kernel)), hnc.2.2.2.1⟩
              · obtain rfl := List.mem_singleton.mp hz9
                exact Or.inr ⟨by decide, "java/lang/IllegalArgumentException", va_Nw.use rfl hnc.1, hnc.2.2.2.2⟩) rfl (by decide) (va_Nw.use rfl hnc.2.1) (va_Nw.use rfl hnest.2.2.2.1.2.2.2) hce hcv hcl ?_
            refine lv_astore (lv' := [(4, .ref (q9)), (3, .int (zI ((v % 2147483648 % (4 : Int)) - ((shI v 7) % 2147483648 % (2 : Int))))), (0, .ref (a 0)), (1, .int (zI (v))), (2, .int (zI (kd)))]) hx hb dL_isDone_409 hl (by decide) rfl (fun ls hl => ?_)
            refine lv_iconst (v := zI 1) hx hb dL_isDone_411 rfl ?_
            refine vx_ret ?_
            refine W.widen (k := 80) (n := 480) (by omega) (by omega) ?_
            exact W.zret (v := zI (1)) (ty := .boolean) hx hb hr (by decide +kernel) (fun t9 ht hW => ⟨⟨_, (q, σ), rfl, ⟨_, rfl, ⟨rfl, okA_mono hO (by omega) (by omega), Ev.rf σ⟩⟩, Wd_mk (wP_left hP) hE0 hS ht hW⟩, hS.F ht⟩) hS.2.2 dL_isDone_412
          · refine vx_catch hown (name := "java/lang/IndexOutOfBoundsException") [] ⟨15, 397, 401, 82⟩ [⟨15, 397, 405, 84⟩, ⟨15, 397, 409, 86⟩] htab9 (fun z hz9 => by cases hz9) rfl (by decide) (hts (.classLink RL 82 "java/lang/IndexOutOfBoundsException") (by decide +kernel)) (va_Nw.use rfl hnest.2.2.2.2.2.2.2) hce hcv hcl ?_
            refine lv_astore (lv' := [(4, .ref (q9)), (3, .int (zI ((v % 2147483648 % (4 : Int)) - ((shI v 7) % 2147483648 % (2 : Int))))), (0, .ref (a 0)), (1, .int (zI (v))), (2, .int (zI (kd)))]) hx hb dL_isDone_401 hl (by decide) rfl (fun ls hl => ?_)
            refine lv_iconst (v := zI 1) hx hb dL_isDone_403 rfl ?_
            refine vx_ret ?_
            refine W.widen (k := 80) (n := 480) (by omega) (by omega) ?_
            exact W.zret (v := zI (1)) (ty := .boolean) hx hb hr (by decide +kernel) (fun t9 ht hW => ⟨⟨_, (q, σ), rfl, ⟨_, rfl, ⟨rfl, okA_mono hO (by omega) (by omega), Ev.rf σ⟩⟩, Wd_mk (wP_left hP) hE0 hS ht hW⟩, hS.F ht⟩) hS.2.2 dL_isDone_404
        · skip
          obtain ⟨qc316, σc316⟩ := u9
          have hB1 : va_P D vwCl (wld cy a qc316 σc316) t9.heap := hB.1
          rw [ht] at hB1
          obtain ⟨hP, hD⟩ := wd_join hP hD hk hB1
          try dsimp only at hw
          have hS := hS1
          obtain ⟨zc316, rfl, hz316⟩ := hw
          have hO2 : okA (t0 + 1) (σc316 1 5) qc316 σc316 := hz316.1
          have hE2 : Ev σ σc316 := hz316.2
          refine lv_pop hx hb dL_isDone_319 rfl ?_
          refine lv_goto (tgt := 398) hx hb dL_isDone_320 (by decide) ?_
          refine lv_goto (tgt := 413) hx hb dL_isDone_398 (by decide) ?_
          refine lv_iconst (v := zI 1) hx hb dL_isDone_413 rfl ?_
          refine vx_ret ?_
          refine W.widen (k := 80) (n := 480) (by omega) (by omega) ?_
          exact W.zret (v := zI (1)) (ty := .boolean) hx hb hr (by decide +kernel) (fun t9 ht hW => ⟨⟨_, (qc316, σc316), rfl, ⟨_, rfl, ⟨rfl, hO2, hE2⟩⟩, Wd_mk (wP_left hP) hE0 hS ht hW⟩, hS.F ht⟩) hS.2.2 dL_isDone_414
    · refine lv_tableIn (off := 307) (tgt := 323) hx hb dL_isDone_16 (by rw [hx16]; omega) (by rw [hx16]; omega) (by rw [hx16, cd16]; rfl) (by decide) ?_
      refine lv_aload_n hx hb dL_isDone_323 rfl (lv_at hl 1 rfl) ?_
      refine lv_iload_n hx hb dL_isDone_324 rfl (lv_at hl 0 rfl) ?_
      refine lv_iload_n hx hb dL_isDone_325 rfl (lv_at hl 2 rfl) ?_
      refine lv_iconst (v := zI 2) hx hb dL_isDone_326 rfl ?_
      refine z_ishr hx hb dL_isDone_327 ?_
      refine lv_iconst (v := zI 3) hx hb dL_isDone_328 rfl ?_
      refine va_calli (va_runS (As := [.int (zI (shI v 2)), .int (zI (3))]) (rest := [.int (zI ((v % 2147483648 % (4 : Int)) - ((shI v 7) % 2147483648 % (2 : Int)))), .ref (a 0)]) ⟨hx, hb, hml, hown, hts⟩ (c_L_below l (shI v 2) (by omega) (3) (by omega) (by first | assumption | omega)) (va_cwS 2 hts gL_isDone_L_below rfl rfl rfl (by decide +kernel) ⟨Nat.le_of_ble_eq_true rfl, Nat.le_of_ble_eq_true rfl⟩) ⟨fun _ _ _ _ h => h, fun _ _ _ => ⟨rfl, trivial⟩⟩ rfl rfl hl.1 rfl (lv_room (Nat.le_of_ble_eq_true rfl)) dL_isDone_329 ⟨(show 0 + 0 + 0 + 0 ≤ 80 by omega), (show 0 + 0 + 0 + 0 ≤ 480 by omega)⟩) hS (fun _ _ h => h.elim) (fun _ h => h.elim) (fun rv329 u9 t9 H locs ht hvm hw hB hz hk hS1 => ?_)
      have hP := hP.kept (fun k x hk9 => hk x.1 ((hP k x hk9).lt) (fun h => h))
      have hk0 : ∀ x : Nat, x < s.heap.size → H[x]? = s.heap[x]? := fun x h9 => (hk x (Nat.lt_of_lt_of_le h9 hS.1) (fun h => h)).trans (hk0 x h9)
      have hS := hS1
      obtain rfl := hw
      refine lv_iload_n hx hb dL_isDone_332 rfl (lv_at hl 2 rfl) ?_
      refine lv_iconst (v := zI 3) hx hb dL_isDone_333 rfl ?_
      refine z_ishr hx hb dL_isDone_334 ?_
      refine lv_bipush (v := zI 120) hx hb dL_isDone_335 (by decide +kernel) ?_
      refine va_calli (va_runS (As := [.int (zI (shI v 3)), .int (zI (120))]) (rest := [.int (zI ((shI v 2) % 2147483648 % (3 : Int))), .int (zI ((v % 2147483648 % (4 : Int)) - ((shI v 7) % 2147483648 % (2 : Int)))), .ref (a 0)]) ⟨hx, hb, hml, hown, hts⟩ (c_L_below l (shI v 3) (by omega) (120) (by omega) (by first | assumption | omega)) (va_cwS 2 hts gL_isDone_L_below rfl rfl rfl (by decide +kernel) ⟨Nat.le_of_ble_eq_true rfl, Nat.le_of_ble_eq_true rfl⟩) ⟨fun _ _ _ _ h => h, fun _ _ _ => ⟨rfl, trivial⟩⟩ rfl rfl hl.1 rfl (lv_room (Nat.le_of_ble_eq_true rfl)) dL_isDone_337 ⟨(show 0 + 0 + 0 + 0 + 0 ≤ 80 by omega), (show 0 + 0 + 0 + 0 + 0 ≤ 480 by omega)⟩) hS (fun _ _ h => h.elim) (fun _ h => h.elim) (fun rv337 u9 t9 H locs ht hvm hw hB hz hk hS1 => ?_)
      have hP := hP.kept (fun k x hk9 => hk x.1 ((hP k x hk9).lt) (fun h => h))
      have hk0 : ∀ x : Nat, x < s.heap.size → H[x]? = s.heap[x]? := fun x h9 => (hk x (Nat.lt_of_lt_of_le h9 hS.1) (fun h => h)).trans (hk0 x h9)
      have hS := hS1
      obtain rfl := hw
      refine lv_iconst (v := zI 1) hx hb dL_isDone_340 rfl ?_
      refine lv_iload_n hx hb dL_isDone_341 rfl (lv_at hl 2 rfl) ?_
      refine lv_iconst (v := zI 4) hx hb dL_isDone_342 rfl ?_
      refine z_ishr hx hb dL_isDone_343 ?_
      refine lv_bipush (v := zI 9) hx hb dL_isDone_344 (by decide +kernel) ?_
      refine va_calli (va_runS (As := [.int (zI (shI v 4)), .int (zI (9))]) (rest := [.int (zI (1)), .int (zI ((shI v 3) % 2147483648 % (120 : Int))), .int (zI ((shI v 2) % 2147483648 % (3 : Int))), .int (zI ((v % 2147483648 % (4 : Int)) - ((shI v 7) % 2147483648 % (2 : Int)))), .ref (a 0)]) ⟨hx, hb, hml, hown, hts⟩ (c_L_below l (shI v 4) (by omega) (9) (by omega) (by first | assumption | omega)) (va_cwS 2 hts gL_isDone_L_below rfl rfl rfl (by decide +kernel) ⟨Nat.le_of_ble_eq_true rfl, Nat.le_of_ble_eq_true rfl⟩) ⟨fun _ _ _ _ h => h, fun _ _ _ => ⟨rfl, trivial⟩⟩ rfl rfl hl.1 rfl (lv_room (Nat.le_of_ble_eq_true rfl)) dL_isDone_346 ⟨(show 0 + 0 + 0 + 0 + 0 + 0 ≤ 80 by omega), (show 0 + 0 + 0 + 0 + 0 + 0 ≤ 480 by omega)⟩) hS (fun _ _ h => h.elim) (fun _ h => h.elim) (fun rv346 u9 t9 H locs ht hvm hw hB hz hk hS1 => ?_)
      have hP := hP.kept (fun k x hk9 => hk x.1 ((hP k x hk9).lt) (fun h => h))
      have hk0 : ∀ x : Nat, x < s.heap.size → H[x]? = s.heap[x]? := fun x h9 => (hk x (Nat.lt_of_lt_of_le h9 hS.1) (fun h => h)).trans (hk0 x h9)
      have hS := hS1
      obtain rfl := hw
      refine z_iadd hx hb dL_isDone_349 ?_
      refine vx_calli (vx_runV (As := [.int (zI ((v % 2147483648 % (4 : Int)) - ((shI v 7) % 2147483648 % (2 : Int)))), .int (zI ((shI v 2) % 2147483648 % (3 : Int))), .int (zI ((shI v 3) % 2147483648 % (120 : Int))), .int (zI (1 + ((shI v 4) % 2147483648 % (9 : Int))))]) (rest := []) ⟨hx, hb, hml, hown, hts⟩ (c_X7_tandem l hlT D cy a q σ H.size ((v % 2147483648 % (4 : Int)) - ((shI v 7) % 2147483648 % (2 : Int))) (by omega) ((shI v 2) % 2147483648 % (3 : Int)) (by omega) ((shI v 3) % 2147483648 % (120 : Int)) (by omega) (1 + ((shI v 4) % 2147483648 % (9 : Int))) (by omega) _ hO (by first | assumption | omega)) (cwV 4 hts gL_isDone_X7_tandem rfl rfl rfl (by decide +kernel) ⟨Nat.le_of_ble_eq_true rfl, Nat.le_of_ble_eq_true rfl⟩) ⟨Wd_blind, va_recv hK hP (ci := 9) (q0 := 0) rfl wg_S, fun U hU hW => ⟨rfl, by rw [hU], Wd_mk (wP_left hP) hE0 hS hU hW⟩⟩ rfl rfl hl.1 rfl (lv_room (Nat.le_of_ble_eq_true rfl)) dL_isDone_350 ⟨(show 0 + 0 + 0 + 0 + 0 + 0 + 3 ≤ 80 by omega), (show 0 + 0 + 0 + 0 + 0 + 0 + 18 ≤ 480 by omega)⟩) hS (fun _ _ h => wF_mono hS.1 _ h) (fun _ h => wF_mono hS.1 _ h) (fun _ _ h => h.elim) (fun E9 ce9 q9 u9 t9 H locs ht hvm hpx hE hz hk hS1 hce hcv hcl => ?_) (fun rv350 u9 t9 H locs ht hvm hw hB hz hk hS1 => ?_)
      · skip
        have hP := hP.kept (fun k x hk9 => hk x.1 ((hP k x hk9).lt) (fun h => h))
        have hS := hS1
        rcases hE with rfl | rfl | rfl
        · refine vx_catch hown (name := "java/lang/IllegalArgumentException") [⟨15, 397, 401, 82⟩] ⟨15, 397, 405, 84⟩ [⟨15, 397, 409, 86⟩] htab9 (fun z hz9 => by
            obtain rfl := List.mem_singleton.mp hz9
            exact Or.inr ⟨by decide, "java/lang/IndexOutOfBoundsException", (hts (.classLink RL 82 "java/lang/IndexOutOfBoundsException") (by decide +kernel)), hnc.2.2.1⟩) rfl (by decide) (va_Nw.use rfl hnc.1) (va_Nw.use rfl hnest.2.2.1.2.2.2) hce hcv hcl ?_
          refine lv_astore (lv' := [(4, .ref (q9)), (3, .int (zI ((v % 2147483648 % (4 : Int)) - ((shI v 7) % 2147483648 % (2 : Int))))), (0, .ref (a 0)), (1, .int (zI (v))), (2, .int (zI (kd)))]) hx hb dL_isDone_405 hl (by decide) rfl (fun ls hl => ?_)
          refine lv_iconst (v := zI 1) hx hb dL_isDone_407 rfl ?_
          refine vx_ret ?_
          refine W.widen (k := 80) (n := 480) (by omega) (by omega) ?_
          exact W.zret (v := zI (1)) (ty := .boolean) hx hb hr (by decide +kernel) (fun t9 ht hW => ⟨⟨_, (q, σ), rfl, ⟨_, rfl, ⟨rfl, okA_mono hO (by omega) (by omega), Ev.rf σ⟩⟩, Wd_mk (wP_left hP) hE0 hS ht hW⟩, hS.F ht⟩) hS.2.2 dL_isDone_408
        · refine vx_catch hown (name := "java/lang/IllegalStateException") [⟨15, 397, 401, 82⟩, ⟨15, 397, 405, 84⟩] ⟨15, 397, 409, 86⟩ [] htab9 (fun z hz9 => by
            rcases List.mem_cons.mp hz9 with rfl | hz9
            · exact Or.inr ⟨by decide, "java/lang/IndexOutOfBoundsException", (hts (.classLink RL 82 "java/lang/IndexOutOfBoundsException") (by decide +kernel)), hnc.2.2.2.1⟩
            · obtain rfl := List.mem_singleton.mp hz9
              exact Or.inr ⟨by decide, "java/lang/IllegalArgumentException", va_Nw.use rfl hnc.1, hnc.2.2.2.2⟩) rfl (by decide) (va_Nw.use rfl hnc.2.1) (va_Nw.use rfl hnest.2.2.2.1.2.2.2) hce hcv hcl ?_
          refine lv_astore (lv' := [(4, .ref (q9)), (3, .int (zI ((v % 2147483648 % (4 : Int)) - ((shI v 7) % 2147483648 % (2 : Int))))), (0, .ref (a 0)), (1, .int (zI (v))), (2, .int (zI (kd)))]) hx hb dL_isDone_409 hl (by decide) rfl (fun ls hl => ?_)
          refine lv_iconst (v := zI 1) hx hb dL_isDone_411 rfl ?_
          refine vx_ret ?_
          refine W.widen (k := 80) (n := 480) (by omega) (by omega) ?_
          exact W.zret (v := zI (1)) (ty := .boolean) hx hb hr (by decide +kernel) (fun t9 ht hW => ⟨⟨_, (q, σ), rfl, ⟨_, rfl, ⟨rfl, okA_mono hO (by omega) (by omega), Ev.rf σ⟩⟩, Wd_mk (wP_left hP) hE0 hS ht hW⟩, hS.F ht⟩) hS.2.2 dL_isDone_412
        · refine vx_catch hown (name := "java/lang/IndexOutOfBoundsException") [] ⟨15, 397, 401, 82⟩ [⟨15, 397, 405, 84⟩, ⟨15, 397, 409, 86⟩] htab9 (fun z hz9 => by cases hz9) rfl (by decide) (hts (.classLink RL 82 "java/lang/IndexOutOfBoundsException") (by decide +kernel)) (va_Nw.use rfl hnest.2.2.2.2.2.2.2) hce hcv hcl ?_
          refine lv_astore (lv' := [(4, .ref (q9)), (3, .int (zI ((v % 2147483648 % (4 : Int)) - ((shI v 7) % 2147483648 % (2 : Int))))), (0, .ref (a 0)), (1, .int (zI (v))), (2, .int (zI (kd)))]) hx hb dL_isDone_401 hl (by decide) rfl (fun ls hl => ?_)
          refine lv_iconst (v := zI 1) hx hb dL_isDone_403 rfl ?_
          refine vx_ret ?_
          refine W.widen (k := 80) (n := 480) (by omega) (by omega) ?_
          exact W.zret (v := zI (1)) (ty := .boolean) hx hb hr (by decide +kernel) (fun t9 ht hW => ⟨⟨_, (q, σ), rfl, ⟨_, rfl, ⟨rfl, okA_mono hO (by omega) (by omega), Ev.rf σ⟩⟩, Wd_mk (wP_left hP) hE0 hS ht hW⟩, hS.F ht⟩) hS.2.2 dL_isDone_404
      · skip
        obtain ⟨qc350, σc350⟩ := u9
        have hB1 : va_P D vwCl (wld cy a qc350 σc350) t9.heap := hB.1
        rw [ht] at hB1
        obtain ⟨hP, hD⟩ := wd_join hP hD hk hB1
        try dsimp only at hw
        have hS := hS1
        obtain ⟨zc350, rfl, hz350⟩ := hw
        have hO2 : okA (t0 + 1) (σc350 1 5) qc350 σc350 := hz350.1
        have hE2 : Ev σ σc350 := hz350.2
        refine lv_pop hx hb dL_isDone_353 rfl ?_
        refine lv_goto (tgt := 398) hx hb dL_isDone_354 (by decide) ?_
        refine lv_goto (tgt := 413) hx hb dL_isDone_398 (by decide) ?_
        refine lv_iconst (v := zI 1) hx hb dL_isDone_413 rfl ?_
        refine vx_ret ?_
        refine W.widen (k := 80) (n := 480) (by omega) (by omega) ?_
        exact W.zret (v := zI (1)) (ty := .boolean) hx hb hr (by decide +kernel) (fun t9 ht hW => ⟨⟨_, (qc350, σc350), rfl, ⟨_, rfl, ⟨rfl, hO2, hE2⟩⟩, Wd_mk (wP_left hP) hE0 hS ht hW⟩, hS.F ht⟩) hS.2.2 dL_isDone_414
    · refine lv_tableIn (off := 341) (tgt := 357) hx hb dL_isDone_16 (by rw [hx16]; omega) (by rw [hx16]; omega) (by rw [hx16, cd16]; rfl) (by decide) ?_
      refine lv_iload_n hx hb dL_isDone_357 rfl (lv_at hl 2 rfl) ?_
      refine lv_iconst (v := zI 2) hx hb dL_isDone_358 rfl ?_
      refine z_ishr hx hb dL_isDone_359 ?_
      refine lv_iconst (v := zI 4) hx hb dL_isDone_360 rfl ?_
      refine va_calli (va_runS (As := [.int (zI (shI v 2)), .int (zI (4))]) (rest := []) ⟨hx, hb, hml, hown, hts⟩ (c_L_below l (shI v 2) (by omega) (4) (by omega) (by first | assumption | omega)) (va_cwS 2 hts gL_isDone_L_below rfl rfl rfl (by decide +kernel) ⟨Nat.le_of_ble_eq_true rfl, Nat.le_of_ble_eq_true rfl⟩) ⟨fun _ _ _ _ h => h, fun _ _ _ => ⟨rfl, trivial⟩⟩ rfl rfl hl.1 rfl (lv_room (Nat.le_of_ble_eq_true rfl)) dL_isDone_361 ⟨(show 0 + 0 + 0 + 0 ≤ 80 by omega), (show 0 + 0 + 0 + 0 ≤ 480 by omega)⟩) hS (fun _ _ h => h.elim) (fun _ h => h.elim) (fun rv361 u9 t9 H locs ht hvm hw hB hz hk hS1 => ?_)
      have hP := hP.kept (fun k x hk9 => hk x.1 ((hP k x hk9).lt) (fun h => h))
      have hk0 : ∀ x : Nat, x < s.heap.size → H[x]? = s.heap[x]? := fun x h9 => (hk x (Nat.lt_of_lt_of_le h9 hS.1) (fun h => h)).trans (hk0 x h9)
      have hS := hS1
      obtain rfl := hw
      refine z_if_ne (tgt := 383) hx hb dL_isDone_364 (by decide) (by omega) (fun cd364 => ?_) (fun cd364 => ?_)
      · skip
        refine lv_aload_n hx hb dL_isDone_383 rfl (lv_at hl 1 rfl) ?_
        refine va_calli (va_runV (As := []) (rest := []) ⟨hx, hb, hml, hown, hts⟩ (c_X7_knock l D cy a q σ H.size _ hO (by first | assumption | omega)) (cwV 0 hts gL_isDone_X7_knock rfl rfl rfl (by decide +kernel) ⟨Nat.le_of_ble_eq_true rfl, Nat.le_of_ble_eq_true rfl⟩) ⟨Wd_blind, va_recv hK hP (ci := 9) (q0 := 0) rfl wg_S, fun U hU hW => ⟨rfl, by rw [hU], Wd_mk (wP_left hP) hE0 hS hU hW⟩⟩ rfl rfl hl.1 rfl (lv_room (Nat.le_of_ble_eq_true rfl)) dL_isDone_384 ⟨(show 0 + 0 + 0 + 0 + 0 ≤ 80 by omega), (show 0 + 0 + 0 + 0 + 0 ≤ 480 by omega)⟩) hS (fun _ _ h => wF_mono hS.1 _ h) (fun _ h => wF_mono hS.1 _ h) (fun rv384 u9 t9 H locs ht hvm hw hB hz hk hS1 => ?_)
        obtain ⟨qc384, σc384⟩ := u9
        have hB1 : va_P D vwCl (wld cy a qc384 σc384) t9.heap := hB.1
        rw [ht] at hB1
        obtain ⟨hP, hD⟩ := wd_join hP hD hk hB1
        try dsimp only at hw
        have hS := hS1
        obtain ⟨zc384, rfl, hz384⟩ := hw
        have hO2 : okA (t0 + 1) (σc384 1 5) qc384 σc384 := hz384.1
        have hE2 : Ev σ σc384 := hz384.2
        refine lv_pop hx hb dL_isDone_387 rfl ?_
        refine lv_goto (tgt := 398) hx hb dL_isDone_388 (by decide) ?_
        refine lv_goto (tgt := 413) hx hb dL_isDone_398 (by decide) ?_
        refine lv_iconst (v := zI 1) hx hb dL_isDone_413 rfl ?_
        refine vx_ret ?_
        refine W.widen (k := 80) (n := 480) (by omega) (by omega) ?_
        exact W.zret (v := zI (1)) (ty := .boolean) hx hb hr (by decide +kernel) (fun t9 ht hW => ⟨⟨_, (qc384, σc384), rfl, ⟨_, rfl, ⟨rfl, hO2, hE2⟩⟩, Wd_mk (wP_left hP) hE0 hS ht hW⟩, hS.F ht⟩) hS.2.2 dL_isDone_414
      · skip
        refine lv_aload_n hx hb dL_isDone_367 rfl (lv_at hl 1 rfl) ?_
        refine lv_iload_n hx hb dL_isDone_368 rfl (lv_at hl 2 rfl) ?_
        refine lv_iconst (v := zI 3) hx hb dL_isDone_369 rfl ?_
        refine z_ishr hx hb dL_isDone_370 ?_
        refine lv_bipush (v := zI 12) hx hb dL_isDone_371 (by decide +kernel) ?_
        refine va_calli (va_runS (As := [.int (zI (shI v 3)), .int (zI (12))]) (rest := [.ref (a 0)]) ⟨hx, hb, hml, hown, hts⟩ (c_L_below l (shI v 3) (by omega) (12) (by omega) (by first | assumption | omega)) (va_cwS 2 hts gL_isDone_L_below rfl rfl rfl (by decide +kernel) ⟨Nat.le_of_ble_eq_true rfl, Nat.le_of_ble_eq_true rfl⟩) ⟨fun _ _ _ _ h => h, fun _ _ _ => ⟨rfl, trivial⟩⟩ rfl rfl hl.1 rfl (lv_room (Nat.le_of_ble_eq_true rfl)) dL_isDone_373 ⟨(show 0 + 0 + 0 + 0 + 0 ≤ 80 by omega), (show 0 + 0 + 0 + 0 + 0 ≤ 480 by omega)⟩) hS (fun _ _ h => h.elim) (fun _ h => h.elim) (fun rv373 u9 t9 H locs ht hvm hw hB hz hk hS1 => ?_)
        have hP := hP.kept (fun k x hk9 => hk x.1 ((hP k x hk9).lt) (fun h => h))
        have hk0 : ∀ x : Nat, x < s.heap.size → H[x]? = s.heap[x]? := fun x h9 => (hk x (Nat.lt_of_lt_of_le h9 hS.1) (fun h => h)).trans (hk0 x h9)
        have hS := hS1
        obtain rfl := hw
        refine vx_calli (vx_runV (As := [.int (zI ((shI v 3) % 2147483648 % (12 : Int)))]) (rest := []) ⟨hx, hb, hml, hown, hts⟩ (c_X7_tear l hlT D cy a q σ H.size ((shI v 3) % 2147483648 % (12 : Int)) (by omega) _ hO (by first | assumption | omega)) (cwV 1 hts gL_isDone_X7_tear rfl rfl rfl (by decide +kernel) ⟨Nat.le_of_ble_eq_true rfl, Nat.le_of_ble_eq_true rfl⟩) ⟨Wd_blind, va_recv hK hP (ci := 9) (q0 := 0) rfl wg_S, fun U hU hW => ⟨rfl, by rw [hU], Wd_mk (wP_left hP) hE0 hS hU hW⟩⟩ rfl rfl hl.1 rfl (lv_room (Nat.le_of_ble_eq_true rfl)) dL_isDone_376 ⟨(show 0 + 0 + 0 + 0 + 0 + 1 ≤ 80 by omega), (show 0 + 0 + 0 + 0 + 0 + 6 ≤ 480 by omega)⟩) hS (fun _ _ h => wF_mono hS.1 _ h) (fun _ h => wF_mono hS.1 _ h) (fun _ _ h => h.elim) (fun E9 ce9 q9 u9 t9 H locs ht hvm hpx hE hz hk hS1 hce hcv hcl => ?_) (fun rv376 u9 t9 H locs ht hvm hw hB hz hk hS1 => ?_)
        · skip
          have hP := hP.kept (fun k x hk9 => hk x.1 ((hP k x hk9).lt) (fun h => h))
          have hS := hS1
          rcases hE with rfl | rfl | rfl
          · refine vx_catch hown (name := "java/lang/IllegalArgumentException") [⟨15, 397, 401, 82⟩] ⟨15, 397, 405, 84⟩ [⟨15, 397, 409, 86⟩] htab9 (fun z hz9 => by
              obtain rfl := List.mem_singleton.mp hz9
              exact Or.inr ⟨by decide, "java/lang/IndexOutOfBoundsException", (hts (.classLink RL 82 "java/lang/IndexOutOfBoundsException") (by decide +kernel)), hnc.2.2.1⟩) rfl (by decide) (va_Nw.use rfl hnc.1) (va_Nw.use rfl hnest.2.2.1.2.2.2) hce hcv hcl ?_
            refine lv_astore (lv' := [(4, .ref (q9)), (3, .int (zI ((v % 2147483648 % (4 : Int)) - ((shI v 7) % 2147483648 % (2 : Int))))), (0, .ref (a 0)), (1, .int (zI (v))), (2, .int (zI (kd)))]) hx hb dL_isDone_405 hl (by decide) rfl (fun ls hl => ?_)
            refine lv_iconst (v := zI 1) hx hb dL_isDone_407 rfl ?_
            refine vx_ret ?_
            refine W.widen (k := 80) (n := 480) (by omega) (by omega) ?_
            exact W.zret (v := zI (1)) (ty := .boolean) hx hb hr (by decide +kernel) (fun t9 ht hW => ⟨⟨_, (q, σ), rfl, ⟨_, rfl, ⟨rfl, okA_mono hO (by omega) (by omega), Ev.rf σ⟩⟩, Wd_mk (wP_left hP) hE0 hS ht hW⟩, hS.F ht⟩) hS.2.2 dL_isDone_408
          · refine vx_catch hown (name := "java/lang/IllegalStateException") [⟨15, 397, 401, 82⟩, ⟨15, 397, 405, 84⟩] ⟨15, 397, 409, 86⟩ [] htab9 (fun z hz9 => by
              rcases List.mem_cons.mp hz9 with rfl | hz9
              · exact Or.inr ⟨by decide, "java/lang/IndexOutOfBoundsException", (hts (.classLink RL 82 "java/lang/IndexOutOfBoundsException") (by decide +kernel)), hnc.2.2.2.1⟩
              · obtain rfl := List.mem_singleton.mp hz9
                exact Or.inr ⟨by decide, "java/lang/IllegalArgumentException", va_Nw.use rfl hnc.1, hnc.2.2.2.2⟩) rfl (by decide) (va_Nw.use rfl hnc.2.1) (va_Nw.use rfl hnest.2.2.2.1.2.2.2) hce hcv hcl ?_
            refine lv_astore (lv' := [(4, .ref (q9)), (3, .int (zI ((v % 2147483648 % (4 : Int)) - ((shI v 7) % 2147483648 % (2 : Int))))), (0, .ref (a 0)), (1, .int (zI (v))), (2, .int (zI (kd)))]) hx hb dL_isDone_409 hl (by decide) rfl (fun ls hl => ?_)
            refine lv_iconst (v := zI 1) hx hb dL_isDone_411 rfl ?_
            refine vx_ret ?_
            refine W.widen (k := 80) (n := 480) (by omega) (by omega) ?_
            exact W.zret (v := zI (1)) (ty := .boolean) hx hb hr (by decide +kernel) (fun t9 ht hW => ⟨⟨_, (q, σ), rfl, ⟨_, rfl, ⟨rfl, okA_mono hO (by omega) (by omega), Ev.rf σ⟩⟩, Wd_mk (wP_left hP) hE0 hS ht hW⟩, hS.F ht⟩) hS.2.2 dL_isDone_412
          · refine vx_catch hown (name := "java/lang/IndexOutOfBoundsException") [] ⟨15, 397, 401, 82⟩ [⟨15, 397, 405, 84⟩, ⟨15, 397, 409, 86⟩] htab9 (fun z hz9 => by cases hz9) rfl (by decide) (hts (.classLink RL 82 "java/lang/IndexOutOfBoundsException") (by decide +kernel)) (va_Nw.use rfl hnest.2.2.2.2.2.2.2) hce hcv hcl ?_
            refine lv_astore (lv' := [(4, .ref (q9)), (3, .int (zI ((v % 2147483648 % (4 : Int)) - ((shI v 7) % 2147483648 % (2 : Int))))), (0, .ref (a 0)), (1, .int (zI (v))), (2, .int (zI (kd)))]) hx hb dL_isDone_401 hl (by decide) rfl (fun ls hl => ?_)
            refine lv_iconst (v := zI 1) hx hb dL_isDone_403 rfl ?_
            refine vx_ret ?_
            refine W.widen (k := 80) (n := 480) (by omega) (by omega) ?_
            exact W.zret (v := zI (1)) (ty := .boolean) hx hb hr (by decide +kernel) (fun t9 ht hW => ⟨⟨_, (q, σ), rfl, ⟨_, rfl, ⟨rfl, okA_mono hO (by omega) (by omega), Ev.rf σ⟩⟩, Wd_mk (wP_left hP) hE0 hS ht hW⟩, hS.F ht⟩) hS.2.2 dL_isDone_404
        · skip
          obtain ⟨qc376, σc376⟩ := u9
          have hB1 : va_P D vwCl (wld cy a qc376 σc376) t9.heap := hB.1
          rw [ht] at hB1
          obtain ⟨hP, hD⟩ := wd_join hP hD hk hB1
          try dsimp only at hw
          have hS := hS1
          obtain ⟨zc376, rfl, hz376⟩ := hw
          have hO2 : okA (t0 + 1) (σc376 1 5) qc376 σc376 := hz376.1
          have hE2 : Ev σ σc376 := hz376.2
          refine lv_pop hx hb dL_isDone_379 rfl ?_
          refine lv_goto (tgt := 398) hx hb dL_isDone_380 (by decide) ?_
          refine lv_goto (tgt := 413) hx hb dL_isDone_398 (by decide) ?_
          refine lv_iconst (v := zI 1) hx hb dL_isDone_413 rfl ?_
          refine vx_ret ?_
          refine W.widen (k := 80) (n := 480) (by omega) (by omega) ?_
          exact W.zret (v := zI (1)) (ty := .boolean) hx hb hr (by decide +kernel) (fun t9 ht hW => ⟨⟨_, (qc376, σc376), rfl, ⟨_, rfl, ⟨rfl, hO2, hE2⟩⟩, Wd_mk (wP_left hP) hE0 hS ht hW⟩, hS.F ht⟩) hS.2.2 dL_isDone_414
