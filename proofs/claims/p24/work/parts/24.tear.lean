set_option maxHeartbeats 4000000 in
set_option maxRecDepth 100000 in
/-- X1_takeOut -/
theorem c_X1_takeOut (l : Launch) (D : va_G) (cy : Nat → ClassId) (a q : Nat → Nat) (σ : Nat → Nat → Int) (sz : Nat) (nu : Int) (hnu : rg nu) (hn9 : 0 ≤ nu ∧ nu < σ 20 1) (t0 : Int) (wi : Int) (hO : okA t0 wi q σ) : Met l yX1_takeOut wsX1_takeOut ({ frames := 7, cells := 0, slots := 0, locals := 100 }) (va_Pc [.ref (a 20), .int (zI (nu))] (fun U => U.heap.size = sz ∧ Wd D cy a q σ U)) (va_Qi (fun (r : Int32) (u : ((Nat → Nat) × (Nat → Nat → Int))) => ∃ z : Int, r = zI z ∧ (okQ u.1 ∧ u.2 = up2 σ 20 1 (σ 20 1 - 1))) (fun (u : ((Nat → Nat) × (Nat → Nat → Int))) t => Wd D cy a u.1 u.2 t) (wF a sz)) 0 0 (wF a sz) := by
  refine Met.ofW (cc := cX1_takeOut) (maxL := 4) (ret := (some .int)) (by decide) rfl ?_
  intro p e s m args below meth c s₁ B hml hpc0
  obtain ⟨rfl, hsz, hW0⟩ := hpc0
  have hx := B.exec
  have hb := B.bytes
  have hr := B.returns
  have hts := atoms_spec (ws := wsX1_takeOut) B.pre
  have hown : s.vm.findClass RX1 = some m.cls := findClass_of_methodNamed B.named
  have hlocks := B.notSynchronized
  subst hsz
  obtain ⟨hP00, hE0⟩ := id hW0
  obtain ⟨hK, hinj, hU0, hN0, hstr, hnest⟩ := id hE0
  have hP : va_P D vwCl (wld cy a q σ ++ []) s.heap := by rw [List.append_nil]; exact hP00
  have hD : va_D (wF a s.heap.size) (wld cy a q σ ++ []) := wD_of hinj
  have hA : ∀ x : Nat, s.heap.size ≤ x → wF a s.heap.size x := fun _ h => Or.inr h
  have hS : va_S (wF a s.heap.size) s.heap s.heap [] := va_S.rf
  have hk0 : ∀ x : Nat, x < s.heap.size → s.heap[x]? = s.heap[x]? := fun _ _ => rfl
  have hl := lv_entry ([.ref (a 20), .int (zI (nu))]) (n := 4) (Nat.le_of_ble_eq_true rfl)
  rw [lg_entry_eq]
  generalize (lg_sl ([.ref (a 20), .int (zI (nu))]) ++ List.replicate (4 - (lg_sl ([.ref (a 20), .int (zI (nu))])).length) Slot.unset).toArray = ls at hl ⊢
  have hl : lv_has ls 4 [(0, .ref (a 20)), (1, .int (zI (nu)))] := hl
  have k17 := hts (.fieldLink RX1 17 "Slewfree$Log" "pages" "[LSlewfree$Page;") (by decide +kernel)
  have k22 := hts (.fieldLink RX1 22 "Slewfree$Log" "count" "I") (by decide +kernel)
  have k47 := hts (.fieldLink RX1 47 "Slewfree$Page" "seal" "I") (by decide +kernel)
  have inX1 : ∀ w ∈ u_ws RX1 TX1 4, w ∈ wsX1_takeOut := by decide +kernel
  have inX3 : ∀ w ∈ u_ws RX3 TX3 7, w ∈ wsX1_takeOut := by decide +kernel
  obtain ⟨oS, oW, oC, oZ, oM, oL, oP, oQ, oH⟩ := id hO
  unfold okS at oS; unfold okW at oW; unfold okL at oL
  obtain ⟨nz, hnu⟩ : ∃ n : Nat, nu = (n : Int) := ⟨nu.toNat, by omega⟩
  have hqn := oQ.1 nz (by omega)
  obtain ⟨w9, hw9⟩ : ∃ w : Nat, σ 20 1 - 1 = (w : Int) := ⟨(σ 20 1 - 1).toNat, by omega⟩
  refine lv_aload_n hx hb dX1_takeOut_0 rfl (lv_at hl 0 rfl) ?_
  refine va_get (D := D) (ci := 3) (v := .ref (a 21)) (C := RX1) (T := TX1) (N := 4) hx hb hts inX1 hown hK hP 20 wg_L rfl 0 (by decide) k17 (fun _ h9 => h9) rfl dX1_takeOut_1 ?_
  refine lv_iload_n hx hb dX1_takeOut_4 rfl (lv_at hl 1 rfl) ?_
  refine z_aald (i := nz) hx hb hK hP 21 3 wg_AP rfl (by omega) (by omega) (by omega) dX1_takeOut_5 ?_
  refine lv_astore_n (lv' := [(2, .ref (a (22 + q nz))), (0, .ref (a 20)), (1, .int (zI (nu)))]) hx hb dX1_takeOut_6 rfl hl (by decide) rfl (fun ls hl => ?_)
  refine lv_iload_n hx hb dX1_takeOut_7 rfl (lv_at hl 2 rfl) ?_
  refine lv_istore_n (lv' := [(3, .int (zI (nu))), (2, .ref (a (22 + q nz))), (0, .ref (a 20)), (1, .int (zI (nu)))]) hx hb dX1_takeOut_8 rfl hl (by decide) rfl (fun ls hl => ?_)
  have loop9 : ∀ (n : Nat) (i : Nat) (ρ : Nat → Nat) (H : Heap) (locs : List Loc) (ls : Array Slot), 40 - i < n → ((nz : Int) ≤ i) → ((i : Int) ≤ σ 20 1 - 1) → (∀ j, j < nz → ρ j = q j) → (∀ j, nz ≤ j → j < i → ρ j = q (j + 1)) → (∀ j, i ≤ j → j < 40 → ρ j = q j) → va_P D vwCl (wld cy a ρ σ ++ []) H → va_D (wF a s.heap.size) (wld cy a ρ σ ++ []) → va_S (wF a s.heap.size) s.heap H locs → lv_has ls 4 [(0, .ref (a 20)), (1, .int (zI ((nz : Int)))), (2, .ref (a (22 + q nz))), (3, .int (zI ((i : Int))))] → W p l e (headSpec wsX1_takeOut ({ frames := 7, cells := 0, slots := 0, locals := 100 })).room s m ([.ref (a 20), .int (zI (nu))] : List Value).toArray below meth c H locs (0) (0) (MQ below (va_Qi (fun (r : Int32) (u : ((Nat → Nat) × (Nat → Nat → Int))) => ∃ z : Int, r = zI z ∧ (okQ u.1 ∧ u.2 = up2 σ 20 1 (σ 20 1 - 1))) (fun (u : ((Nat → Nat) × (Nat → Nat → Int))) t => Wd D cy a u.1 u.2 t) (wF a s.heap.size)) ([.ref (a 20), .int (zI (nu))] : List Value).toArray s 0 0 (wF a s.heap.size)) (F0 m 9 ls []) := by
    intro n
    induction n with
    | zero => intro i ρ H locs ls h0; exact absurd h0 (Nat.not_lt_zero _)
    | succ n ih9 =>
      intro i ρ H locs ls hms hi1 hi2 r1 r2 r3 hP hD hS hl
      refine lv_iload_n hx hb dX1_takeOut_9 rfl (lv_at hl 3 rfl) ?_
      refine lv_aload_n hx hb dX1_takeOut_10 rfl (lv_at hl 0 rfl) ?_
      refine va_get (D := D) (ci := 3) (v := .int (zI (σ 20 1))) (C := RX1) (T := TX1) (N := 4) hx hb hts inX1 hown hK hP 20 wg_L rfl 1 (by decide) k22 (fun _ h9 => h9) rfl dX1_takeOut_11 ?_
      refine lv_iconst (v := zI 1) hx hb dX1_takeOut_14 rfl ?_
      refine z_isub hx hb dX1_takeOut_15 ?_
      refine z_icmp_ge (tgt := 39) hx hb dX1_takeOut_16 (by decide) (by omega) (by omega) (fun cd16 => ?_) (fun cd16 => ?_)
      · skip
        refine lv_aload_n hx hb dX1_takeOut_39 rfl (lv_at hl 0 rfl) ?_
        refine lv_dup hx hb dX1_takeOut_40 rfl ?_
        refine va_get (D := D) (ci := 3) (v := .int (zI (σ 20 1))) (C := RX1) (T := TX1) (N := 4) hx hb hts inX1 hown hK hP 20 wg_L rfl 1 (by decide) k22 (fun _ h9 => h9) rfl dX1_takeOut_41 ?_
        refine lv_iconst (v := zI 1) hx hb dX1_takeOut_44 rfl ?_
        refine z_isub hx hb dX1_takeOut_45 ?_
        refine w_put (ty := .int) (z := (σ 20 1) - 1) (C := RX1) (T := TX1) (N := 4) hx hb hts inX1 tyX1 tyX1_ok nmX1 hown hK hP hD hS 20 (by omega) (ci := 3) (fs := fL a) (fun _ => wc_L) rfl 1 (by decide) k22 (fun _ h9 => h9) rfl (by decide +kernel) rfl rfl (Nat.le_of_ble_eq_true rfl) rfl dX1_takeOut_46 (fun H locs hP hD hS => ?_)
        obtain ⟨σp46, eσp46⟩ : ∃ z, z = up2 σ 20 1 ((σ 20 1) - 1) := ⟨_, rfl⟩
        rw [← eσp46] at hP hD
        refine lv_aload_n hx hb dX1_takeOut_49 rfl (lv_at hl 0 rfl) ?_
        refine va_get (D := D) (ci := 3) (v := .ref (a 21)) (C := RX1) (T := TX1) (N := 4) hx hb hts inX1 hown hK hP 20 wg_L rfl 0 (by decide) k17 (fun _ h9 => h9) rfl dX1_takeOut_50 ?_
        refine lv_aload_n hx hb dX1_takeOut_53 rfl (lv_at hl 0 rfl) ?_
        refine va_get (D := D) (ci := 3) (v := .int (zI ((σ 20 1) - 1))) (C := RX1) (T := TX1) (N := 4) hx hb hts inX1 hown hK hP 20 wg_L rfl 1 (by decide) k22 (fun _ h9 => h9) (by show some (Value.int (zI (σp46 20 1))) = some (Value.int (zI ((σ 20 1) - 1))); rw [eσp46, g_eq]) dX1_takeOut_54 ?_
        refine lv_aload_n hx hb dX1_takeOut_57 rfl (lv_at hl 2 rfl) ?_
        refine z_past (j := ((σ 20 1).toNat - 1)) (v := q nz) hx hb hK hP hD hS (by omega) (by omega) (by omega) dX1_takeOut_58 (fun H locs hP hD hS => ?_)
        obtain ⟨qp58, eqp58⟩ : ∃ z, z = va_up ρ ((σ 20 1).toNat - 1) (q nz) := ⟨_, rfl⟩
        rw [← eqp58] at hP hD
        refine lv_aload_n hx hb dX1_takeOut_59 rfl (lv_at hl 2 rfl) ?_
        refine va_get (D := D) (ci := 5) (v := .int (zI (σ (22 + q nz) 5))) (C := RX3) (T := TX3) (N := 7) hx hb hts inX3 hown hK hP (22 + q nz) (wg_P (i := q nz) (by first | assumption | omega)) rfl 5 (by decide) k47 (fun _ h9 => h9) (by show some (Value.int (zI (σp46 (22 + q nz) 5))) = some (Value.int (zI (σ (22 + q nz) 5))); rw [eσp46, g_ne (by omega)]) dX1_takeOut_60 ?_
        have hQ9 : okQ qp58 := by rw [eqp58]; exact okQ_tear (c := (σ 20 1).toNat) oQ (by omega) (by omega) r1 (fun j h1 h2 => r2 j h1 (by omega)) (fun j h1 h2 => r3 j (by omega) h2)
        exact W.iret (v := zI (σ (22 + q nz) 5)) hx hb hr (fun t9 ht hW => ⟨⟨_, (qp58, σp46), rfl, ⟨_, rfl, ⟨hQ9, eσp46⟩⟩, Wd_mk (wP_left hP) hE0 hS ht hW⟩, hS.F ht⟩) hS.2.2 dX1_takeOut_63
      · skip
        have hri := r3 (i + 1) (by omega) (by omega)
        have hrq := oQ.1 (i + 1) (by omega)
        refine lv_aload_n hx hb dX1_takeOut_19 rfl (lv_at hl 0 rfl) ?_
        refine va_get (D := D) (ci := 3) (v := .ref (a 21)) (C := RX1) (T := TX1) (N := 4) hx hb hts inX1 hown hK hP 20 wg_L rfl 0 (by decide) k17 (fun _ h9 => h9) rfl dX1_takeOut_20 ?_
        refine lv_iload_n hx hb dX1_takeOut_23 rfl (lv_at hl 3 rfl) ?_
        refine lv_aload_n hx hb dX1_takeOut_24 rfl (lv_at hl 0 rfl) ?_
        refine va_get (D := D) (ci := 3) (v := .ref (a 21)) (C := RX1) (T := TX1) (N := 4) hx hb hts inX1 hown hK hP 20 wg_L rfl 0 (by decide) k17 (fun _ h9 => h9) rfl dX1_takeOut_25 ?_
        refine lv_iload_n hx hb dX1_takeOut_28 rfl (lv_at hl 3 rfl) ?_
        refine lv_iconst (v := zI 1) hx hb dX1_takeOut_29 rfl ?_
        refine z_iadd hx hb dX1_takeOut_30 ?_
        refine z_aald (i := (i + 1)) hx hb hK hP 21 3 wg_AP rfl (by omega) (by omega) (by omega) dX1_takeOut_31 ?_
        refine z_past (j := i) (v := ρ (i + 1)) hx hb hK hP hD hS (by omega) (by omega) (by omega) dX1_takeOut_32 (fun H locs hP hD hS => ?_)
        obtain ⟨qp32, eqp32⟩ : ∃ z, z = va_up ρ i (ρ (i + 1)) := ⟨_, rfl⟩
        rw [← eqp32] at hP hD
        refine lv_iinc (v := zI ((i : Int) + 1)) (lv' := [(3, .int (zI ((i : Int) + 1))), (0, .ref (a 20)), (1, .int (zI ((nz : Int)))), (2, .ref (a (22 + q nz)))]) hx hb dX1_takeOut_33 hl (k := 3) rfl (zI_add _ _) (by decide) rfl (fun ls hl => ?_)
        refine lv_goto (tgt := 9) hx hb dX1_takeOut_36 (by decide) ?_
        exact ih9 (i + 1) qp32 H locs ls (by omega) (by omega) (by omega) (fun j h => by rw [eqp32, va_up_ne _ _ (by omega)]; exact r1 j h) (fun j h1 h2 => by
          rw [eqp32]
          by_cases e : j = i
          · rw [e, va_up_self]; exact r3 (i + 1) (by omega) (by omega)
          · rw [va_up_ne _ _ e]; exact r2 j h1 (by omega)) (fun j h1 h2 => by rw [eqp32, va_up_ne _ _ (by omega)]; exact r3 j (by omega) h2)  hP hD hS (by have h9 := lv_sub hl [1, 2, 3, 0] rfl; exact h9)
  exact loop9 (41) nz q s.heap [] ls (by omega) (by omega) (by omega) (fun _ _ => rfl) (fun j h1 h2 => absurd h1 (by omega)) (fun _ _ _ => rfl)  hP hD hS (by have h9 := lv_sub hl [2, 3, 1, 0] rfl; rw [hnu] at h9; exact h9)

set_option maxRecDepth 100000 in
theorem vt234_X7_tear : ∀ w ∈ (vx_atS RX7 234 "java/lang/IndexOutOfBoundsException" ["java/lang/RuntimeException", "java/lang/Exception"]).filter goodWord, w ∈ wsX7_tear := by decide +kernel
set_option maxHeartbeats 4000000 in
set_option maxRecDepth 100000 in
/-- X7_tear -/
theorem c_X7_tear (l : Launch) (hlT : l.stackTraces = false) (D : va_G) (cy : Nat → ClassId) (a q : Nat → Nat) (σ : Nat → Nat → Int) (sz : Nat) (pg : Int) (hpg : rg pg) (t0 : Int) (hO : okA t0 (σ 1 5) q σ) (ht9 : t0 < 1000000) : vx_Met l yX7_tear wsX7_tear ({ frames := 9, cells := 1, slots := 6, locals := 300 }) (va_Pc [.ref (a 0), .int (zI (pg))] (fun U => U.heap.size = sz ∧ Wd D cy a q σ U)) (va_Qi (fun (r : Int32) (u : ((Nat → Nat) × (Nat → Nat → Int))) => ∃ z : Int, r = zI z ∧ (okA (t0 + 1) (u.2 1 5) u.1 u.2 ∧ Ev σ u.2)) (fun (u : ((Nat → Nat) × (Nat → Nat → Int))) t => Wd D cy a u.1 u.2 t) (wF a sz)) (vx_X (fun (_ : Unit) => True) (fun E _ _ => okE E) (fun _ => False)) 1 6 (wF a sz) := by
  refine vx_ofW (cc := cX7_tear) (maxL := 2) (ret := (some .int)) (by decide) rfl ?_
  intro p e s m args below meth c s₁ B hml hexc hpc0
  obtain ⟨rfl, hsz, hW0⟩ := hpc0
  have hx := B.exec
  have hb := B.bytes
  have hr := B.returns
  have hts := atoms_spec (ws := wsX7_tear) B.pre
  have hown : s.vm.findClass RX7 = some m.cls := findClass_of_methodNamed B.named
  have hlocks := B.notSynchronized
  subst hsz
  obtain ⟨hP00, hE0⟩ := id hW0
  obtain ⟨hK, hinj, hU0, hN0, hstr, hnest⟩ := id hE0
  have hP : va_P D vwCl (wld cy a q σ ++ []) s.heap := by rw [List.append_nil]; exact hP00
  have hD : va_D (wF a s.heap.size) (wld cy a q σ ++ []) := wD_of hinj
  have hA : ∀ x : Nat, s.heap.size ≤ x → wF a s.heap.size x := fun _ h => Or.inr h
  have hS : va_S (wF a s.heap.size) s.heap s.heap [] := va_S.rf
  have hk0 : ∀ x : Nat, x < s.heap.size → s.heap[x]? = s.heap[x]? := fun _ _ => rfl
  have hl := lv_entry ([.ref (a 0), .int (zI (pg))]) (n := 2) (Nat.le_of_ble_eq_true rfl)
  rw [lg_entry_eq]
  generalize (lg_sl ([.ref (a 0), .int (zI (pg))]) ++ List.replicate (2 - (lg_sl ([.ref (a 0), .int (zI (pg))])).length) Slot.unset).toArray = ls at hl ⊢
  have hl : lv_has ls 2 [(0, .ref (a 0)), (1, .int (zI (pg)))] := hl
  have k42 := hts (.fieldLink RX7 42 "Slewfree" "log" "LSlewfree$Log;") (by decide +kernel)
  have inX7 : ∀ w ∈ u_ws RX7 TX7 9, w ∈ wsX7_tear := by decide +kernel
  obtain ⟨oS, oW, oC, oZ, oM, oL, oP, oQ, oH⟩ := id hO
  unfold okS at oS; unfold okW at oW; unfold okL at oL
  refine lv_aload_n hx hb dX7_tear_0 rfl (lv_at hl 0 rfl) ?_
  refine lv_iload_n hx hb dX7_tear_1 rfl (lv_at hl 1 rfl) ?_
  refine va_calli (va_runV (As := [.int (zI (pg))]) (rest := []) ⟨hx, hb, hml, hown, hts⟩ (c_X7_isNoPage l D cy a q σ s.heap.size (pg) (by omega) (by omega)) (cwV 1 hts gX7_tear_X7_isNoPage rfl rfl rfl (by decide +kernel) ⟨Nat.le_of_ble_eq_true rfl, Nat.le_of_ble_eq_true rfl⟩) ⟨Wd_blind, va_recv hK hP (ci := 9) (q0 := 0) rfl wg_S, fun U hU hW => ⟨rfl, by rw [hU], Wd_mk (wP_left hP) hE0 hS hU hW⟩⟩ rfl rfl hl.1 rfl (lv_room (Nat.le_of_ble_eq_true rfl)) dX7_tear_2 ⟨(show 0 + 0 ≤ 1 by omega), (show 0 + 0 ≤ 6 by omega)⟩) hS (fun _ _ h => h.elim) (fun _ h => wF_mono hS.1 _ h) (fun rv2 u9 t9 H locs ht hvm hw hB hz hk hS1 => ?_)
  have hP := hP.kept (fun k x hk9 => hk x.1 ((hP k x hk9).lt) (fun h => h))
  have hk0 : ∀ x : Nat, x < s.heap.size → H[x]? = s.heap[x]? := fun x h9 => (hk x (Nat.lt_of_lt_of_le h9 hS.1) (fun h => h)).trans (hk0 x h9)
  have hS := hS1
  rcases hw with ⟨rfl, bd2⟩ | ⟨rfl, bd2⟩
  · skip
    refine z_if_eq (tgt := 18) hx hb dX7_tear_5 (by decide) (by decide) (fun cd5 => absurd cd5 (by decide)) (fun _ => ?_)
    obtain ⟨sa9, hsa9⟩ := hstr (232, "no such page") (by decide)
    exact vx_throwS (names := ["java/lang/RuntimeException", "java/lang/Exception"]) (sa := sa9) hx hb hlT hown (by decide +kernel) (by decide +kernel) (hts (.classLink RX7 230 "java/lang/IndexOutOfBoundsException") (by decide +kernel)) (hts (.initialized "java/lang/IndexOutOfBoundsException") (by decide +kernel)) hsa9 (vx_hat (fun w h => hts w (vt234_X7_tear w h)) vf234 hnest.2.2.2.2.bad) vg234 hU0 hN0 hS (by rw [hml]; exact hl.1) dX7_tear_8 dX7_tear_11 dX7_tear_12 dX7_tear_14 dX7_tear_17 (fun x h => (hexc x h).elim) (Nat.le_of_ble_eq_true rfl) (Nat.le_of_ble_eq_true rfl) (show 0 + 0 + 1 ≤ 1 by omega) (show 0 + 0 + 6 ≤ 6 by omega) hlocks (fun t9 hvm9 hz9 hk9 => ⟨(), trivial, okE_I, Nat.le_trans hS.1 hz9, fun x h9 _ => (hk9 x (Nat.lt_of_lt_of_le h9 hS.1)).trans (hk0 x h9)⟩) hS.2.2 (by omega) (by omega)
  · skip
    refine z_if_eq (tgt := 18) hx hb dX7_tear_5 (by decide) (by decide) (fun _ => ?_) (fun cd5 => absurd cd5 (by decide))
    refine lv_aload_n hx hb dX7_tear_18 rfl (lv_at hl 0 rfl) ?_
    refine va_get (D := D) (ci := 9) (v := .ref (a 20)) (C := RX7) (T := TX7) (N := 9) hx hb hts inX7 hown hK hP 0 wg_S rfl 4 (by decide) k42 (fun _ h9 => h9) rfl dX7_tear_19 ?_
    refine lv_iload_n hx hb dX7_tear_22 rfl (lv_at hl 1 rfl) ?_
    refine va_calli (va_runV (As := [.int (zI (pg))]) (rest := []) ⟨hx, hb, hml, hown, hts⟩ (c_X1_takeOut l D cy a q σ H.size (pg) (by omega) (by first | assumption | omega) _ _ hO) (cwV 1 hts gX7_tear_X1_takeOut rfl rfl rfl (by decide +kernel) ⟨Nat.le_of_ble_eq_true rfl, Nat.le_of_ble_eq_true rfl⟩) ⟨Wd_blind, va_recv hK hP (ci := 3) (q0 := 20) rfl wg_L, fun U hU hW => ⟨rfl, by rw [hU], Wd_mk (wP_left hP) hE0 hS hU hW⟩⟩ rfl rfl hl.1 rfl (lv_room (Nat.le_of_ble_eq_true rfl)) dX7_tear_23 ⟨(show 0 + 0 + 0 ≤ 1 by omega), (show 0 + 0 + 0 ≤ 6 by omega)⟩) hS (fun _ _ h => wF_mono hS.1 _ h) (fun _ h => wF_mono hS.1 _ h) (fun rv23 u9 t9 H locs ht hvm hw hB hz hk hS1 => ?_)
    obtain ⟨qc23, σc23⟩ := u9
    have hB1 : va_P D vwCl (wld cy a qc23 σc23) t9.heap := hB.1
    rw [ht] at hB1
    obtain ⟨hP, hD⟩ := wd_join hP hD hk hB1
    try dsimp only at hw
    have hS := hS1
    obtain ⟨zc23, rfl, hz23⟩ := hw
    refine vx_ret ?_
    refine W.widen (k := 1) (n := 6) (by omega) (by omega) ?_
    exact W.iret (v := zI (zc23)) hx hb hr (fun t9 ht hW => ⟨⟨_, (qc23, σc23), rfl, ⟨_, rfl, (by
        obtain ⟨h1, h2⟩ := hz23
        have h3 : σc23 = up2 σ 20 1 (σ 20 1 - 1) := h2
        subst h3
        exact ⟨okA_tear hO h1 (by omega) (by omega), Ev_tear⟩)⟩, Wd_mk (wP_left hP) hE0 hS ht hW⟩, hS.F ht⟩) hS.2.2 dX7_tear_26
