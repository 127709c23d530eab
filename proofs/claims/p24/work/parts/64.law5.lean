set_option maxHeartbeats 4000000 in
set_option maxRecDepth 100000 in
theorem whole_start {p : Program} {e : Env} {s : State} {m : MethodId} {below : List Frame} {meth : Method} {c : Code} (l : Launch) (hflags : l.flags = flags0) {b L : Nat} {xs : Nat → Int32} (hL : L ≤ 260) (C0 : lw_At p s m meth c b L xs) : W p l e room_1 s m #[Value.ref b] below meth c s.heap [] 0 0 (lw_Z below #[Value.ref b] s) (entryFrame m ([Value.ref b] : List Value).toArray 9) := by
  obtain ⟨hx, hb, hr, hml, hown, hts9, hX, hbl, hlocks, hgv⟩ := C0
  have hlT : l.stackTraces = false := by
    unfold Launch.stackTraces
    rw [hflags]
    decide +kernel
  have hts : ∀ w ∈ wsL_law, w.before #[Value.ref b] s = true := fun w h => hts9 w (wsL_law_in w h)
  have hown : s.vm.findClass RL = some m.cls := hown
  obtain ⟨A, hAe⟩ : ∃ z : Nat → Prop, z = fun y => s.heap.size ≤ y := ⟨_, rfl⟩
  have hA1 : ∀ y : Nat, s.heap.size ≤ y → A y := fun y h => by rw [hAe]; exact h
  have hA2 : ∀ y : Nat, A y → s.heap.size ≤ y := fun y h => by rw [hAe] at h; exact h
  have hA0 : ∀ y : Nat, y < s.heap.size → ¬ A y := fun y h1 h2 => absurd h1 (Nat.not_lt.mpr (hA2 y h2))
  have hbA : ¬ A b := hA0 b hbl
  obtain ⟨D, hK0⟩ := lw_D hts9
  obtain ⟨J, hZ⟩ := lw_jZ hK0 hts9 hgv hA0
  obtain ⟨hU0, hN0⟩ := lw_zq hts9 hgv hA0
  have hstr := lw_str hts9 hgv
  have hnest := lw_nest hts9
  have hdn := lw_wDn hts9 hgv
  obtain ⟨hOX0, hOX6, hOX2, hOX3, hN5, hN6, hN2, hN3⟩ := lw_init hts9
  have hS : va_S A s.heap s.heap [] := va_S.rf
  have hP0 : va_P D vwCl [] s.heap := fun k x hk => by cases hk
  have hD0 : va_D A [] := ⟨fun i j x y hi => (by cases hi), fun k x hk => (by cases hk)⟩
  have hl := lv_entry ([Value.ref b]) (n := 9) (Nat.le_of_ble_eq_true rfl)
  rw [lg_entry_eq]
  generalize (lg_sl ([Value.ref b]) ++ List.replicate (9 - (lg_sl ([Value.ref b])).length) Slot.unset).toArray = ls at hl ⊢
  have hl : lv_has ls 9 [(0, .ref b)] := hl
  refine w_new (ci := 9) (fs := [.null, .null, .null, .null, .null, .int (zI 0), .int (zI 0), .int (zI 0), .int (zI 0)]) (C := RX7) (T := TX7) (N := 9) hx hb hts9 wsL_law_uX7 tyX7 tyX7_ok hown (hts9 (.classLink RL 9 RX7) (by decide +kernel)) (hts9 (.instantiable RX7 9) (by decide +kernel)) (hts9 (.initialized RX7) (by decide +kernel)) hK0 hP0 hD0 hS hA1 rfl (fun j hj => by rcases (show j = 0 ∨ j = 1 ∨ j = 2 ∨ j = 3 ∨ j = 4 ∨ j = 5 ∨ j = 6 ∨ j = 7 ∨ j = 8 by omega) with rfl | rfl | rfl | rfl | rfl | rfl | rfl | rfl | rfl <;> rfl) (show 0 + 1 ≤ 871361 by omega) (show 0 + 9 ≤ 6487687 by omega) dL_law_0 (fun x0 H hxq hsz1 ho1 hP hD hS => ?_)
  refine lv_dup hx hb dL_law_3 rfl ?_
  refine va_callv (va_runI (As := []) (rest := [.ref x0]) ⟨hx, hb, hml, hown, hts⟩ (c_X7_init l D A H.size (fun y h => hA1 y (Nat.le_trans hS.1 h)) x0) (cwI 0 hts gL_law_X7_init rfl rfl rfl (hts9 (.initialized RX7) (by decide +kernel)) (hts9 (.methodLink RL 11 yX7_init) (by decide +kernel)) (hts9 (.instanceMethod yX7_init) (by decide +kernel)) rfl (by decide +kernel) ⟨Nat.le_of_ble_eq_true rfl, Nat.le_of_ble_eq_true rfl⟩) ⟨lw_iblind rfl rfl rfl rfl, fun U hU hW => ⟨rfl, by rw [hU], by rw [hU]; exact hP, hD, va_K.moved hW.alike hK0, va_AO.moved hW.alike hOX0, va_AO.moved hW.alike hOX6, va_AO.moved hW.alike hOX2, va_AO.moved hW.alike hOX3, va_Nw.warmM hW hN5, va_Nw.warmM hW hN6, va_Nw.warmM hW hN2, va_Nw.warmM hW hN3⟩⟩ rfl rfl hl.1 rfl (lv_room (Nat.le_of_ble_eq_true rfl)) dL_law_4 ⟨(show 0 + 1 + 61 ≤ 871361 by omega), (show 0 + 9 + 436 ≤ 6487687 by omega)⟩) hS (fun _ _ h => h) (fun _ h => h) (fun u9 t9 H locs ht hvm hw hB hz hk hS1 => ?_)
  obtain ⟨a, cy⟩ := u9
  obtain ⟨hP9, hD9, hK9⟩ := hB
  dsimp only at hP9 hD9 hK9 hw
  rw [ht] at hP9
  have hS := hS1
  rw [← hw]
  have hKy : va_K D vwCl (wty cy) s := va_K.moved hvm.symm hK9
  have hinj : wInj a := fun i j hi hj e9 => hD9.1 i j _ _ (wld_get hi) (wld_get hj) e9
  have hAk : ∀ k : Nat, k < 62 → A (a k) := fun k hk9 => hD9.2 k _ (wld_get hk9)
  have hAw : ∀ n : Nat, s.heap.size ≤ n → ∀ x : Nat, wF a n x → A x := fun n hn x hx9 => by
    rcases hx9 with ⟨k, hk9, rfl⟩ | hx9
    · exact hAk k hk9
    · exact hA1 x (Nat.le_trans hn hx9)
  have hP : va_P D vwCl (wld cy a (fun i => i) σI ++ []) H := by rw [List.append_nil]; exact hP9
  have hD : va_D A (wld cy a (fun i => i) σI ++ []) := by rw [List.append_nil]; exact hD9
  have hK := hKy
  have hs05 : σI 0 5 = 0 := rfl
  refine lv_astore_n (lv' := [(1, .ref (a 0)), (0, .ref (b))]) hx hb dL_law_7 rfl hl (by decide) rfl (fun ls hl => ?_)
  refine lv_aload_n hx hb dL_law_8 rfl (lv_at hl 0 rfl) ?_
  refine lv_bipush (v := zI 30) hx hb dL_law_9 (by decide +kernel) ?_
  refine lv_iconst (v := zI 2) hx hb dL_law_11 rfl ?_
  refine vx_calli (vx_runV (As := [.int (zI (30)), .int (zI (2))]) (rest := []) ⟨hx, hb, hml, hown, hts⟩ (c_X7_crane l hlT D cy a (fun i => i) σI H.size (30) (by omega) (2) (by omega) 0 okA_sI (by omega)) (cwV 2 hts gL_law_X7_crane rfl rfl rfl (by decide +kernel) ⟨Nat.le_of_ble_eq_true rfl, Nat.le_of_ble_eq_true rfl⟩) ⟨Wd_blind, va_recv hK hP (ci := 9) (q0 := 0) rfl wg_S, fun U hU hW => ⟨rfl, by rw [hU], Wd_mkL (wP_left hP) hKy hinj hU0 hN0 hstr hnest hS (fun _ h => hAw _ hS.1 _ h) hU hW⟩⟩ rfl rfl hl.1 rfl (lv_room (Nat.le_of_ble_eq_true rfl)) dL_law_12 ⟨(show 0 + 1 + 61 + 1 ≤ 871361 by omega), (show 0 + 9 + 436 + 6 ≤ 6487687 by omega)⟩) hS (fun _ _ h => hAw _ hS.1 _ h) (fun _ h => hAw _ hS.1 _ h) (fun _ _ h => h.elim) (fun E9 ce9 q9 u9 t9 H locs ht hvm hpx hE hz hk hS1 hce hcv hcl => ?_) (fun rv12 u9 t9 H locs ht hvm hw hB hz hk hS1 => ?_)
  · skip
    exact absurd hpx (by omega)
  · skip
    obtain ⟨qc12, σc12⟩ := u9
    have hB1 : va_P D vwCl (wld cy a qc12 σc12) t9.heap := hB.1
    rw [ht] at hB1
    obtain ⟨hP, hD⟩ := wd_join hP hD hk hB1
    try dsimp only at hw
    have hS := hS1
    obtain ⟨zc12, rfl, hz12⟩ := hw
    have hO1 := hz12.1
    have h51 : σc12 0 5 = 1 := by have h9 := hz12.2.2; omega
    refine lv_pop hx hb dL_law_15 rfl ?_
    refine lv_aload_n hx hb dL_law_16 rfl (lv_at hl 0 rfl) ?_
    refine lv_iconst (v := zI 0) hx hb dL_law_17 rfl ?_
    refine lv_bipush (v := zI 80) hx hb dL_law_18 (by decide +kernel) ?_
    refine lv_bipush (v := zI 60) hx hb dL_law_20 (by decide +kernel) ?_
    refine lv_bipush (v := zI 40) hx hb dL_law_22 (by decide +kernel) ?_
    refine lv_bipush (v := zI 20) hx hb dL_law_24 (by decide +kernel) ?_
    refine vx_calli (vx_runV (As := [.int (zI (0)), .int (zI (80)), .int (zI (60)), .int (zI (40)), .int (zI (20))]) (rest := []) ⟨hx, hb, hml, hown, hts⟩ (c_X7_table l hlT D cy a qc12 σc12 H.size (0) (by omega) (80) (by omega) (60) (by omega) (40) (by omega) (20) (by omega) (0 + 1) hO1 (by omega)) (cwV 5 hts gL_law_X7_table rfl rfl rfl (by decide +kernel) ⟨Nat.le_of_ble_eq_true rfl, Nat.le_of_ble_eq_true rfl⟩) ⟨Wd_blind, va_recv hK hP (ci := 9) (q0 := 0) rfl wg_S, fun U hU hW => ⟨rfl, by rw [hU], Wd_mkL (wP_left hP) hKy hinj hU0 hN0 hstr hnest hS (fun _ h => hAw _ hS.1 _ h) hU hW⟩⟩ rfl rfl hl.1 rfl (lv_room (Nat.le_of_ble_eq_true rfl)) dL_law_26 ⟨(show 0 + 1 + 61 + 1 + 2 ≤ 871361 by omega), (show 0 + 9 + 436 + 6 + 12 ≤ 6487687 by omega)⟩) hS (fun _ _ h => hAw _ hS.1 _ h) (fun _ h => hAw _ hS.1 _ h) (fun _ _ h => h.elim) (fun E9 ce9 q9 u9 t9 H locs ht hvm hpx hE hz hk hS1 hce hcv hcl => ?_) (fun rv26 u9 t9 H locs ht hvm hw hB hz hk hS1 => ?_)
    · skip
      exact absurd hpx (by omega)
    · skip
      obtain ⟨qc26, σc26⟩ := u9
      have hB1 : va_P D vwCl (wld cy a qc26 σc26) t9.heap := hB.1
      rw [ht] at hB1
      obtain ⟨hP, hD⟩ := wd_join hP hD hk hB1
      try dsimp only at hw
      have hS := hS1
      obtain ⟨zc26, rfl, hz26⟩ := hw
      have hO2 := hz26.1
      have h052 : 1 ≤ σc26 0 5 := by have h9 := hz26.2.2.2.2.2.1; omega
      refine lv_pop hx hb dL_law_29 rfl ?_
      refine lv_iconst (v := zI 5) hx hb dL_law_30 rfl ?_
      refine va_newa (atype := .int) (ty := .int) (n := zI 5) (N' := 5) (a0 := (5, .inl (fun _ => zI 0))) hx hb (hts9 (.arrayClass .int) (by decide +kernel)) rfl hKy hP hD hS hA1 (fun _ => by rw [zI_0]; rfl) (by decide) (by decide) (by decide) (show 0 + 1 + 61 + 1 + 2 + 1 ≤ 871361 by omega) (show 0 + 9 + 436 + 6 + 12 + 5 ≤ 6487687 by omega) dL_law_31 (fun q31 cI H hK hP hD hS => ?_)
      rw [List.append_nil] at hP hD
      have hP : va_P D vwCl (wld cy a qc26 σc26 ++ [(q31, eI cI (fun _ => 0))]) H := hP
      have hD : va_D A (wld cy a qc26 σc26 ++ [(q31, eI cI (fun _ => 0))]) := hD
      refine lv_astore_n (lv' := [(2, .ref (q31)), (1, .ref (a 0)), (0, .ref (b))]) hx hb dL_law_33 rfl hl (by decide) rfl (fun ls hl => ?_)
      refine lv_iconst (v := zI 1) hx hb dL_law_34 rfl ?_
      refine lv_istore_n (lv' := [(3, .int (zI (1))), (2, .ref (q31)), (1, .ref (a 0)), (0, .ref (b))]) hx hb dL_law_35 rfl hl (by decide) rfl (fun ls hl => ?_)
      refine lv_iconst (v := zI 0) hx hb dL_law_36 rfl ?_
      refine lv_istore (lv' := [(4, .int (zI (0))), (3, .int (zI (1))), (2, .ref (q31)), (1, .ref (a 0)), (0, .ref (b))]) hx hb dL_law_37 hl (by decide) rfl (fun ls hl => ?_)
      have loop39 : ∀ (n : Nat) (i : Nat) (q : Nat → Nat) (σ : Nat → Nat → Int) (ww : Int) (f : Nat → Int) (l0 : Nat) (H : Heap) (locs : List Loc) (ls : Array Slot), 61 - i < n → (i ≤ 60) → (okA ((i : Int) + 2) (σ 1 5) q σ) → (1 ≤ σ 0 5) → (ww = 0 ∨ ww = 1) → (ww = 0 → 1 ≤ σ 20 2 - σ 20 1) → (nrL f σ) → va_P D vwCl (wld cy a q σ ++ [(l0, eI cI f)]) H → va_D A (wld cy a q σ ++ [(l0, eI cI f)]) → va_S A s.heap H locs → lv_has ls 9 [(4, .int (zI ((i : Int)))), (3, .int (zI (ww))), (2, .ref (l0)), (1, .ref (a 0)), (0, .ref (b))] → W p l e room_1 s m #[Value.ref b] below meth c H locs (100 + i * 1200) (1000 + i * 8000) (lw_Z below #[Value.ref b] s) (F0 m 39 ls []) := by
        intro n
        induction n with
        | zero => intro i q σ ww f l0 H locs ls h0; exact absurd h0 (Nat.not_lt_zero _)
        | succ n ih39 =>
          intro i q σ ww f l0 H locs ls hms hi hO h05 hww hw0 hf hP hD hS hl
          refine lv_iload hx hb dL_law_39 (lv_at hl 0 rfl) ?_
          refine lv_bipush (v := zI 60) hx hb dL_law_41 (by decide +kernel) ?_
          refine z_icmp_ge (tgt := 258) hx hb dL_law_43 (by decide) (by omega) (by omega) (fun cd43 => ?_) (fun cd43 => ?_)
          · skip
            refine lv_iconst (v := zI 1) hx hb dL_law_258 rfl ?_
            refine W.widen (k := 871361) (n := 6487687) (by omega) (by omega) ?_
            refine va_forget (fun q9 h9 => hA2 _ (hS.2.2 q9 h9)) ?_
            rw [show zI 1 = (1 : Int32) by decide]
            exact lw_ret hx hb hr hlocks dL_law_259
          · skip
            refine lv_aload_n hx hb dL_law_46 rfl (lv_at hl 4 rfl) ?_
            refine lv_iload hx hb dL_law_47 (lv_at hl 0 rfl) ?_
            refine lv_bipush (v := zI 16) hx hb dL_law_49 (by decide +kernel) ?_
            refine z_irem hx hb dL_law_51 (by omega) (by omega) ?_
            refine va_calli (va_runS (As := [.ref b, .int (zI ((i : Int) % 16))]) (rest := []) ⟨hx, hb, hml, hown, hts⟩ (c_L_cell l b ((i : Int) % 16) (by omega) (by omega) L xs hL) (va_cwS 2 hts gL_law_L_cell rfl rfl rfl (by decide +kernel) ⟨Nat.le_of_ble_eq_true rfl, Nat.le_of_ble_eq_true rfl⟩) ⟨lw_xblind, fun U hU hW => ⟨rfl, (va_X.moved hW.alike hX).kept (by rw [hU]; exact hS.2.1 b hbl hbA), by rw [hU]; exact Nat.lt_of_lt_of_le hbl hS.1⟩⟩ rfl rfl hl.1 rfl (lv_room (Nat.le_of_ble_eq_true rfl)) dL_law_52 ⟨(show 100 + i * 1200 + 0 ≤ 871361 by omega), (show 1000 + i * 8000 + 0 ≤ 6487687 by omega)⟩) hS (fun _ _ h => h.elim) (fun _ h => h.elim) (fun rv52 u9 t9 H locs ht hvm hw hB hz hk hS1 => ?_)
            have hP := hP.kept (fun k x hk9 => hk x.1 ((hP k x hk9).lt) (fun h => h))
            have hS := hS1
            obtain ⟨zc52, rfl, -⟩ := hw
            refine lv_bipush (v := zI 59) hx hb dL_law_55 (by decide +kernel) ?_
            refine lv_iload hx hb dL_law_57 (lv_at hl 0 rfl) ?_
            refine z_imul hx hb dL_law_59 ?_
            refine z_iadd hx hb dL_law_60 ?_
            refine z_topi (fun ro hro _ => ?_)
            refine lv_istore (lv' := [(5, .int (zI (ro))), (4, .int (zI ((i : Int)))), (3, .int (zI (ww))), (2, .ref (l0)), (1, .ref (a 0)), (0, .ref (b))]) hx hb dL_law_61 hl (by decide) rfl (fun ls hl => ?_)
            refine lv_aload_n hx hb dL_law_63 rfl (lv_at hl 4 rfl) ?_
            refine lv_iload hx hb dL_law_64 (lv_at hl 0 rfl) ?_
            refine lv_iconst (v := zI 2) hx hb dL_law_66 rfl ?_
            refine z_ishr hx hb dL_law_67 ?_
            refine lv_iload hx hb dL_law_68 (lv_at hl 0 rfl) ?_
            refine lv_bipush (v := zI 14) hx hb dL_law_70 (by decide +kernel) ?_
            refine va_calli (va_runS (As := [.int (zI (ro)), .int (zI (14))]) (rest := [.int (zI (shI ro 2)), .ref (a 0)]) ⟨hx, hb, hml, hown, hts⟩ (c_L_below l (ro) (by omega) (14) (by omega) (by first | assumption | omega)) (va_cwS 2 hts gL_law_L_below rfl rfl rfl (by decide +kernel) ⟨Nat.le_of_ble_eq_true rfl, Nat.le_of_ble_eq_true rfl⟩) ⟨fun _ _ _ _ h => h, fun _ _ _ => ⟨rfl, trivial⟩⟩ rfl rfl hl.1 rfl (lv_room (Nat.le_of_ble_eq_true rfl)) dL_law_72 ⟨(show 100 + i * 1200 + 0 + 0 ≤ 871361 by omega), (show 1000 + i * 8000 + 0 + 0 ≤ 6487687 by omega)⟩) hS (fun _ _ h => h.elim) (fun _ h => h.elim) (fun rv72 u9 t9 H locs ht hvm hw hB hz hk hS1 => ?_)
            have hP := hP.kept (fun k x hk9 => hk x.1 ((hP k x hk9).lt) (fun h => h))
            have hS := hS1
            obtain rfl := hw
            refine vx_calli (vx_runSX (As := [.ref (a 0), .int (zI (shI ro 2)), .int (zI (ro % 2147483648 % (14 : Int)))]) (rest := []) ⟨hx, hb, hml, hown, hts⟩ (c_L_isDone l hlT D cy a q σ H.size (shI ro 2) (shI_rg _ _) (ro % 2147483648 % (14 : Int)) (by omega) ((i : Int) + 2) hO (by omega)) (vx_cwSW 3 hts gL_law_L_isDone rfl rfl rfl (by decide +kernel) ⟨Nat.le_of_ble_eq_true rfl, Nat.le_of_ble_eq_true rfl⟩) ⟨WdD_blind, fun U hU hW => ⟨rfl, by rw [hU], Wd_mkL (wP_left hP) hKy hinj hU0 hN0 hstr hnest hS (fun _ h => hAw _ hS.1 _ h) hU hW, wDn_warm hW hdn⟩⟩ rfl rfl hl.1 rfl (lv_room (Nat.le_of_ble_eq_true rfl)) dL_law_75 ⟨(show 100 + i * 1200 + 0 + 0 + 80 ≤ 871361 by omega), (show 1000 + i * 8000 + 0 + 0 + 480 ≤ 6487687 by omega)⟩) hS (fun _ _ h => hAw _ hS.1 _ h) (fun _ h => hAw _ hS.1 _ h) (fun _ _ h => h.elim) (fun E9 ce9 q9 u9 t9 H locs ht hvm hpx hE hz hk hS1 hce hcv hcl => ?_) (fun rv75 u9 t9 H locs ht hvm hw hB hz hk hS1 => ?_)
            · exact False.elim hpx
            obtain ⟨qd, σd⟩ := u9
            have hB1 : va_P D vwCl (wld cy a qd σd) t9.heap := hB.1
            rw [ht] at hB1
            obtain ⟨hP, hD⟩ := wd_join hP hD hk hB1
            have hS := hS1
            obtain ⟨zc75, rfl, hz75, hOd, hEd⟩ := hw
            have hOd : okA ((i : Int) + 2 + 1) (σd 1 5) qd σd := hOd
            have hEd : Ev σ σd := hEd
            have hf := nrL_mono hEd hO hOd hf
            have hO := hOd
            have oSd := hO.1
            unfold okS at oSd
            have h05d : 1 ≤ σd 0 5 := Int.le_trans h05 hEd.2.2.2.2.1
            rw [hz75]
            refine z_if_eq (tgt := 88) hx hb dL_law_78 (by decide) (by decide) (fun cd78 => absurd cd78 (by decide)) (fun _ => ?_)
            refine lv_aload_n hx hb dL_law_81 rfl (lv_at hl 4 rfl) ?_
            refine va_calli (va_runS (As := [.ref (a 0)]) (rest := []) ⟨hx, hb, hml, hown, hts⟩ (c_L_isHeld l D cy a qd σd H.size hlT _ hO) (va_cwS 1 hts gL_law_L_isHeld rfl rfl rfl (by decide +kernel) ⟨Nat.le_of_ble_eq_true rfl, Nat.le_of_ble_eq_true rfl⟩) ⟨Wd_blind, fun U hU hW => ⟨rfl, by rw [hU], Wd_mkL (wP_left hP) hKy hinj hU0 hN0 hstr hnest hS (fun _ h => hAw _ hS.1 _ h) hU hW⟩⟩ rfl rfl hl.1 rfl (lv_room (Nat.le_of_ble_eq_true rfl)) dL_law_82 ⟨(show 100 + i * 1200 + 0 + 0 + 80 + 225 ≤ 871361 by omega), (show 1000 + i * 8000 + 0 + 0 + 480 + 1350 ≤ 6487687 by omega)⟩) hS (fun _ _ h => h.elim) (fun _ h => hAw _ hS.1 _ h) (fun rv82 u9 t9 H locs ht hvm hw hB hz hk hS1 => ?_)
            have hP := hP.kept (fun k x hk9 => hk x.1 ((hP k x hk9).lt) (fun h => h))
            have hS := hS1
            obtain rfl := hw
            refine z_if_ne (tgt := 90) hx hb dL_law_85 (by decide) (by decide) (fun _ => ?_) (fun cd85 => absurd cd85 (by decide))
            refine lv_aload_n hx hb dL_law_90 rfl (lv_at hl 4 rfl) ?_
            refine lv_bipush (v := zI 14) hx hb dL_law_91 (by decide +kernel) ?_
            refine vx_calli (vx_runV (As := [.int (zI (14))]) (rest := []) ⟨hx, hb, hml, hown, hts⟩ (c_X7_site l hlT D cy a qd σd H.size (14) (by omega) _ _ hO) (cwV 1 hts gL_law_X7_site rfl rfl rfl (by decide +kernel) ⟨Nat.le_of_ble_eq_true rfl, Nat.le_of_ble_eq_true rfl⟩) ⟨Wd_blind, va_recv hK hP (ci := 9) (q0 := 0) rfl wg_S, fun U hU hW => ⟨rfl, by rw [hU], Wd_mkL (wP_left hP) hKy hinj hU0 hN0 hstr hnest hS (fun _ h => hAw _ hS.1 _ h) hU hW⟩⟩ rfl rfl hl.1 rfl (lv_room (Nat.le_of_ble_eq_true rfl)) dL_law_93 ⟨(show 100 + i * 1200 + 0 + 0 + 80 + 225 + 1 ≤ 871361 by omega), (show 1000 + i * 8000 + 0 + 0 + 480 + 1350 + 6 ≤ 6487687 by omega)⟩) hS (fun _ _ h => h.elim) (fun _ h => hAw _ hS.1 _ h) (fun _ _ h => h.elim) (fun E9 ce9 q9 u9 t9 H locs ht hvm hpx hE hz hk hS1 hce hcv hcl => ?_) (fun rv93 u9 t9 H locs ht hvm hw hB hz hk hS1 => ?_)
            · skip
              exact absurd hpx (by omega)
            · skip
              have hP := hP.kept (fun k x hk9 => hk x.1 ((hP k x hk9).lt) (fun h => h))
              have hS := hS1
              obtain rfl := hw
              obtain ⟨wh, ewh⟩ : ∃ z : Int, z = siF qd σd 14 := ⟨_, rfl⟩
              have hwh := siF_14c hO
              rw [← ewh] at hwh ⊢
              refine lv_iconst (v := zI 1) hx hb dL_law_96 rfl ?_
              have join105 : ∀ wn : Int, ((wn = 1 ∧ σd 20 1 = σd 20 2) ∨ (wn = 0 ∧ ¬ σd 20 1 = σd 20 2)) → W p l e room_1 s m #[Value.ref b] below meth c H locs (100 + i * 1200 + 0 + 0 + 80 + 225 + 1) (1000 + i * 8000 + 0 + 0 + 480 + 1350 + 6) (lw_Z below #[Value.ref b] s) (F0 m 105 ls [.int (zI wn)]) := by
                intro wn hwn
                refine lv_istore (lv' := [(6, .int (zI (wn))), (5, .int (zI (ro))), (4, .int (zI ((i : Int)))), (3, .int (zI (ww))), (2, .ref (l0)), (1, .ref (a 0)), (0, .ref (b))]) hx hb dL_law_105 hl (by decide) rfl (fun ls hl => ?_)
                refine lv_iload hx hb dL_law_107 (lv_at hl 0 rfl) ?_
                have join118 : W p l e room_1 s m #[Value.ref b] below meth c H locs (100 + i * 1200 + 0 + 0 + 80 + 225 + 1) (1000 + i * 8000 + 0 + 0 + 480 + 1350 + 6) (lw_Z below #[Value.ref b] s) (F0 m 118 ls []) := by
                  refine lv_iload hx hb dL_law_118 (lv_at hl 0 rfl) ?_
                  refine lv_istore_n (lv' := [(3, .int (zI (wn))), (6, .int (zI (wn))), (5, .int (zI (ro))), (4, .int (zI ((i : Int)))), (2, .ref (l0)), (1, .ref (a 0)), (0, .ref (b))]) hx hb dL_law_120 rfl hl (by decide) rfl (fun ls hl => ?_)
                  refine lv_iconst (v := zI 5) hx hb dL_law_121 rfl ?_
                  refine va_newa (atype := .int) (ty := .int) (n := zI 5) (N' := 5) (a0 := (5, .inl (fun _ => zI 0))) hx hb (hts9 (.arrayClass .int) (by decide +kernel)) rfl hK hP hD hS hA1 (fun _ => by rw [zI_0]; rfl) (by decide) (by decide) (by decide) (show 100 + i * 1200 + 0 + 0 + 80 + 225 + 1 + 1 ≤ 871361 by omega) (show 1000 + i * 8000 + 0 + 0 + 480 + 1350 + 6 + 5 ≤ 6487687 by omega) dL_law_122 (fun n0 cI2 H hK2 hP hD hS => ?_)
                  have e9 := lw_same hK2
                  subst e9
                  rw [List.append_assoc] at hP hD
                  have hP : va_P D vwCl (wld cy a qd σd ++ [(l0, eI cI f), (n0, eI cI (fun _ => 0))]) H := hP
                  have hD : va_D A (wld cy a qd σd ++ [(l0, eI cI f), (n0, eI cI (fun _ => 0))]) := hD
                  refine lv_dup hx hb dL_law_124 rfl ?_
                  refine lv_iconst (v := zI 0) hx hb dL_law_125 rfl ?_
                  refine lv_aload_n hx hb dL_law_126 rfl (lv_at hl 5 rfl) ?_
                  refine lv_iconst (v := zI 0) hx hb dL_law_127 rfl ?_
                  refine vx_calli (vx_runV (As := [.int (zI (0))]) (rest := [.int (zI (0)), .ref (n0), .ref (n0)]) ⟨hx, hb, hml, hown, hts⟩ (c_X7_site l hlT D cy a qd σd H.size (0) (by omega) _ _ hO) (cwV 1 hts gL_law_X7_site rfl rfl rfl (by decide +kernel) ⟨Nat.le_of_ble_eq_true rfl, Nat.le_of_ble_eq_true rfl⟩) ⟨Wd_blind, va_recv hK hP (ci := 9) (q0 := 0) rfl wg_S, fun U hU hW => ⟨rfl, by rw [hU], Wd_mkL (wP_left hP) hKy hinj hU0 hN0 hstr hnest hS (fun _ h => hAw _ hS.1 _ h) hU hW⟩⟩ rfl rfl hl.1 rfl (lv_room (Nat.le_of_ble_eq_true rfl)) dL_law_128 ⟨(show 100 + i * 1200 + 0 + 0 + 80 + 225 + 1 + 1 + 1 ≤ 871361 by omega), (show 1000 + i * 8000 + 0 + 0 + 480 + 1350 + 6 + 5 + 6 ≤ 6487687 by omega)⟩) hS (fun _ _ h => h.elim) (fun _ h => hAw _ hS.1 _ h) (fun _ _ h => h.elim) (fun E9 ce9 q9 u9 t9 H locs ht hvm hpx hE hz hk hS1 hce hcv hcl => ?_) (fun rv128 u9 t9 H locs ht hvm hw hB hz hk hS1 => ?_)
                  · skip
                    exact absurd hpx (by omega)
                  · skip
                    have hP := hP.kept (fun k x hk9 => hk x.1 ((hP k x hk9).lt) (fun h => h))
                    have hS := hS1
                    obtain rfl := hw
                    rw [show siF qd σd (0 : Int) = σd 1 0 from rfl]
                    refine z_iast hx hb hK hP hD hS 63 4 lw_p63 rfl 0 rfl (by decide) dL_law_131 (fun H locs hP hD hS => ?_)
                    rw [lw_s63] at hP hD
                    refine lv_dup hx hb dL_law_132 rfl ?_
                    refine lv_iconst (v := zI 1) hx hb dL_law_133 rfl ?_
                    refine lv_aload_n hx hb dL_law_134 rfl (lv_at hl 5 rfl) ?_
                    refine lv_bipush (v := zI 7) hx hb dL_law_135 (by decide +kernel) ?_
                    refine vx_calli (vx_runV (As := [.int (zI (7))]) (rest := [.int (zI (1)), .ref (n0), .ref (n0)]) ⟨hx, hb, hml, hown, hts⟩ (c_X7_site l hlT D cy a qd σd H.size (7) (by omega) _ _ hO) (cwV 1 hts gL_law_X7_site rfl rfl rfl (by decide +kernel) ⟨Nat.le_of_ble_eq_true rfl, Nat.le_of_ble_eq_true rfl⟩) ⟨Wd_blind, va_recv hK hP (ci := 9) (q0 := 0) rfl wg_S, fun U hU hW => ⟨rfl, by rw [hU], Wd_mkL (wP_left hP) hKy hinj hU0 hN0 hstr hnest hS (fun _ h => hAw _ hS.1 _ h) hU hW⟩⟩ rfl rfl hl.1 rfl (lv_room (Nat.le_of_ble_eq_true rfl)) dL_law_137 ⟨(show 100 + i * 1200 + 0 + 0 + 80 + 225 + 1 + 1 + 1 + 1 ≤ 871361 by omega), (show 1000 + i * 8000 + 0 + 0 + 480 + 1350 + 6 + 5 + 6 + 6 ≤ 6487687 by omega)⟩) hS (fun _ _ h => h.elim) (fun _ h => hAw _ hS.1 _ h) (fun _ _ h => h.elim) (fun E9 ce9 q9 u9 t9 H locs ht hvm hpx hE hz hk hS1 hce hcv hcl => ?_) (fun rv137 u9 t9 H locs ht hvm hw hB hz hk hS1 => ?_)
                    · skip
                      exact absurd hpx (by omega)
                    · skip
                      have hP := hP.kept (fun k x hk9 => hk x.1 ((hP k x hk9).lt) (fun h => h))
                      have hS := hS1
                      obtain rfl := hw
                      rw [show siF qd σd (7 : Int) = σd 1 6 from rfl]
                      refine z_iast hx hb hK hP hD hS 63 4 lw_p63 rfl 1 rfl (by decide) dL_law_140 (fun H locs hP hD hS => ?_)
                      rw [lw_s63] at hP hD
                      refine lv_dup hx hb dL_law_141 rfl ?_
                      refine lv_iconst (v := zI 2) hx hb dL_law_142 rfl ?_
                      refine lv_aload_n hx hb dL_law_143 rfl (lv_at hl 5 rfl) ?_
                      refine lv_bipush (v := zI 13) hx hb dL_law_144 (by decide +kernel) ?_
                      refine vx_calli (vx_runV (As := [.int (zI (13))]) (rest := [.int (zI (2)), .ref (n0), .ref (n0)]) ⟨hx, hb, hml, hown, hts⟩ (c_X7_site l hlT D cy a qd σd H.size (13) (by omega) _ _ hO) (cwV 1 hts gL_law_X7_site rfl rfl rfl (by decide +kernel) ⟨Nat.le_of_ble_eq_true rfl, Nat.le_of_ble_eq_true rfl⟩) ⟨Wd_blind, va_recv hK hP (ci := 9) (q0 := 0) rfl wg_S, fun U hU hW => ⟨rfl, by rw [hU], Wd_mkL (wP_left hP) hKy hinj hU0 hN0 hstr hnest hS (fun _ h => hAw _ hS.1 _ h) hU hW⟩⟩ rfl rfl hl.1 rfl (lv_room (Nat.le_of_ble_eq_true rfl)) dL_law_146 ⟨(show 100 + i * 1200 + 0 + 0 + 80 + 225 + 1 + 1 + 1 + 1 + 1 ≤ 871361 by omega), (show 1000 + i * 8000 + 0 + 0 + 480 + 1350 + 6 + 5 + 6 + 6 + 6 ≤ 6487687 by omega)⟩) hS (fun _ _ h => h.elim) (fun _ h => hAw _ hS.1 _ h) (fun _ _ h => h.elim) (fun E9 ce9 q9 u9 t9 H locs ht hvm hpx hE hz hk hS1 hce hcv hcl => ?_) (fun rv146 u9 t9 H locs ht hvm hw hB hz hk hS1 => ?_)
                      · skip
                        exact absurd hpx (by omega)
                      · skip
                        have hP := hP.kept (fun k x hk9 => hk x.1 ((hP k x hk9).lt) (fun h => h))
                        have hS := hS1
                        obtain rfl := hw
                        rw [show siF qd σd (13 : Int) = σd 20 2 from rfl]
                        refine z_iast hx hb hK hP hD hS 63 4 lw_p63 rfl 2 rfl (by decide) dL_law_149 (fun H locs hP hD hS => ?_)
                        rw [lw_s63] at hP hD
                        refine lv_dup hx hb dL_law_150 rfl ?_
                        refine lv_iconst (v := zI 3) hx hb dL_law_151 rfl ?_
                        refine lv_aload_n hx hb dL_law_152 rfl (lv_at hl 5 rfl) ?_
                        refine lv_bipush (v := zI 16) hx hb dL_law_153 (by decide +kernel) ?_
                        refine vx_calli (vx_runV (As := [.int (zI (16))]) (rest := [.int (zI (3)), .ref (n0), .ref (n0)]) ⟨hx, hb, hml, hown, hts⟩ (c_X7_site l hlT D cy a qd σd H.size (16) (by omega) _ _ hO) (cwV 1 hts gL_law_X7_site rfl rfl rfl (by decide +kernel) ⟨Nat.le_of_ble_eq_true rfl, Nat.le_of_ble_eq_true rfl⟩) ⟨Wd_blind, va_recv hK hP (ci := 9) (q0 := 0) rfl wg_S, fun U hU hW => ⟨rfl, by rw [hU], Wd_mkL (wP_left hP) hKy hinj hU0 hN0 hstr hnest hS (fun _ h => hAw _ hS.1 _ h) hU hW⟩⟩ rfl rfl hl.1 rfl (lv_room (Nat.le_of_ble_eq_true rfl)) dL_law_155 ⟨(show 100 + i * 1200 + 0 + 0 + 80 + 225 + 1 + 1 + 1 + 1 + 1 + 1 ≤ 871361 by omega), (show 1000 + i * 8000 + 0 + 0 + 480 + 1350 + 6 + 5 + 6 + 6 + 6 + 6 ≤ 6487687 by omega)⟩) hS (fun _ _ h => h.elim) (fun _ h => hAw _ hS.1 _ h) (fun _ _ h => h.elim) (fun E9 ce9 q9 u9 t9 H locs ht hvm hpx hE hz hk hS1 hce hcv hcl => ?_) (fun rv155 u9 t9 H locs ht hvm hw hB hz hk hS1 => ?_)
                        · skip
                          exact absurd hpx (by omega)
                        · skip
                          have hP := hP.kept (fun k x hk9 => hk x.1 ((hP k x hk9).lt) (fun h => h))
                          have hS := hS1
                          obtain rfl := hw
                          rw [show siF qd σd (16 : Int) = σd 0 8 from rfl]
                          refine z_iast hx hb hK hP hD hS 63 4 lw_p63 rfl 3 rfl (by decide) dL_law_158 (fun H locs hP hD hS => ?_)
                          rw [lw_s63] at hP hD
                          refine lv_dup hx hb dL_law_159 rfl ?_
                          refine lv_iconst (v := zI 4) hx hb dL_law_160 rfl ?_
                          refine lv_iconst (v := zI 0) hx hb dL_law_161 rfl ?_
                          refine z_iast hx hb hK hP hD hS 63 4 lw_p63 rfl 4 rfl (by decide) dL_law_162 (fun H locs hP hD hS => ?_)
                          rw [lw_s63] at hP hD
                          refine lv_astore (lv' := [(7, .ref (n0)), (3, .int (zI (wn))), (6, .int (zI (wn))), (5, .int (zI (ro))), (4, .int (zI ((i : Int)))), (2, .ref (l0)), (1, .ref (a 0)), (0, .ref (b))]) hx hb dL_law_163 hl (by decide) rfl (fun ls hl => ?_)
                          obtain ⟨g, eg⟩ : ∃ z : Nat → Int, z = (upr (upr (upr (upr (upr (fun _ => 0) 0 (σd 1 0)) 1 (σd 1 6)) 2 (σd 20 2)) 3 (σd 0 8)) 4 0) := ⟨_, rfl⟩
                          rw [← eg] at hP hD
                          have hg0 : g 0 = σd 1 0 ∧ g 1 = σd 1 6 ∧ g 2 = σd 20 2 ∧ g 3 = σd 0 8 ∧ g 4 = wrN σd 0 := by
                            rw [eg]
                            exact ⟨rfl, rfl, rfl, rfl, rfl⟩
                          refine lv_iconst (v := zI 0) hx hb dL_law_165 rfl ?_
                          refine lv_istore (lv' := [(8, .int (zI (0))), (7, .ref (n0)), (3, .int (zI (wn))), (6, .int (zI (wn))), (5, .int (zI (ro))), (4, .int (zI ((i : Int)))), (2, .ref (l0)), (1, .ref (a 0)), (0, .ref (b))]) hx hb dL_law_166 hl (by decide) rfl (fun ls hl => ?_)
                          have loop168 : ∀ (n : Nat) (j : Nat) (g : Nat → Int) (H : Heap) (locs : List Loc) (ls : Array Slot), 4 - j < n → ((j : Int) ≤ σd 0 5) → (g 0 = σd 1 0 ∧ g 1 = σd 1 6 ∧ g 2 = σd 20 2 ∧ g 3 = σd 0 8 ∧ g 4 = wrN σd j) → va_P D vwCl (wld cy a qd σd ++ [(l0, eI cI f), (n0, eI cI g)]) H → va_D A (wld cy a qd σd ++ [(l0, eI cI f), (n0, eI cI g)]) → va_S A s.heap H locs → lv_has ls 9 [(8, .int (zI ((j : Int)))), (7, .ref (n0)), (3, .int (zI (wn))), (6, .int (zI (wn))), (5, .int (zI (ro))), (4, .int (zI ((i : Int)))), (2, .ref (l0)), (1, .ref (a 0)), (0, .ref (b))] → W p l e room_1 s m #[Value.ref b] below meth c H locs (100 + i * 1200 + 0 + 0 + 80 + 225 + 1 + 1 + 1 + 1 + 1 + 1 + j * 3) (1000 + i * 8000 + 0 + 0 + 480 + 1350 + 6 + 5 + 6 + 6 + 6 + 6 + j * 18) (lw_Z below #[Value.ref b] s) (F0 m 168 ls []) := by
                            intro n
                            induction n with
                            | zero => intro j g H locs ls h0; exact absurd h0 (Nat.not_lt_zero _)
                            | succ n ih168 =>
                              intro j g H locs ls hms hj hg hP hD hS hl
                              refine lv_iload hx hb dL_law_168 (lv_at hl 0 rfl) ?_
                              refine lv_aload_n hx hb dL_law_170 rfl (lv_at hl 7 rfl) ?_
                              refine lv_bipush (v := zI 8) hx hb dL_law_171 (by decide +kernel) ?_
                              refine vx_calli (vx_runV (As := [.int (zI (8))]) (rest := [.int (zI ((j : Int)))]) ⟨hx, hb, hml, hown, hts⟩ (c_X7_site l hlT D cy a qd σd H.size (8) (by omega) _ _ hO) (cwV 1 hts gL_law_X7_site rfl rfl rfl (by decide +kernel) ⟨Nat.le_of_ble_eq_true rfl, Nat.le_of_ble_eq_true rfl⟩) ⟨Wd_blind, va_recv hK hP (ci := 9) (q0 := 0) rfl wg_S, fun U hU hW => ⟨rfl, by rw [hU], Wd_mkL (wP_left hP) hKy hinj hU0 hN0 hstr hnest hS (fun _ h => hAw _ hS.1 _ h) hU hW⟩⟩ rfl rfl hl.1 rfl (lv_room (Nat.le_of_ble_eq_true rfl)) dL_law_173 ⟨(show 100 + i * 1200 + 0 + 0 + 80 + 225 + 1 + 1 + 1 + 1 + 1 + 1 + j * 3 + 1 ≤ 871361 by omega), (show 1000 + i * 8000 + 0 + 0 + 480 + 1350 + 6 + 5 + 6 + 6 + 6 + 6 + j * 18 + 6 ≤ 6487687 by omega)⟩) hS (fun _ _ h => h.elim) (fun _ h => hAw _ hS.1 _ h) (fun _ _ h => h.elim) (fun E9 ce9 q9 u9 t9 H locs ht hvm hpx hE hz hk hS1 hce hcv hcl => ?_) (fun rv173 u9 t9 H locs ht hvm hw hB hz hk hS1 => ?_)
                              · skip
                                exact absurd hpx (by omega)
                              · skip
                                have hP := hP.kept (fun k x hk9 => hk x.1 ((hP k x hk9).lt) (fun h => h))
                                have hS := hS1
                                obtain rfl := hw
                                rw [show siF qd σd (8 : Int) = σd 0 5 from rfl]
                                refine z_icmp_ge (tgt := 200) hx hb dL_law_176 (by decide) (by omega) (by omega) (fun cd176 => ?_) (fun cd176 => ?_)
                                · skip
                                  have hgj : g 4 = wrN σd (σd 0 5).toNat := by
                                    rw [hg.2.2.2.2, show (σd 0 5).toNat = j by omega]
                                  have hfg := nrL_le hO hf hg.1 hg.2.1 hg.2.2.1 hg.2.2.2.1 hgj
                                  have hgn := nrL_now hO hg.1 hg.2.1 hg.2.2.1 hg.2.2.2.1 hgj
                                  refine lv_iconst (v := zI 0) hx hb dL_law_200 rfl ?_
                                  refine lv_istore (lv' := [(8, .int (zI (0))), (7, .ref (n0)), (3, .int (zI (wn))), (6, .int (zI (wn))), (5, .int (zI (ro))), (4, .int (zI ((i : Int)))), (2, .ref (l0)), (1, .ref (a 0)), (0, .ref (b))]) hx hb dL_law_201 hl (by decide) rfl (fun ls hl => ?_)
                                  have loop203 : ∀ (n : Nat) (k : Nat) (H : Heap) (locs : List Loc) (ls : Array Slot), 6 - k < n → (k ≤ 5) → va_P D vwCl (wld cy a qd σd ++ [(l0, eI cI f), (n0, eI cI g)]) H → va_D A (wld cy a qd σd ++ [(l0, eI cI f), (n0, eI cI g)]) → va_S A s.heap H locs → lv_has ls 9 [(8, .int (zI ((k : Int)))), (7, .ref (n0)), (3, .int (zI (wn))), (6, .int (zI (wn))), (5, .int (zI (ro))), (4, .int (zI ((i : Int)))), (2, .ref (l0)), (1, .ref (a 0)), (0, .ref (b))] → W p l e room_1 s m #[Value.ref b] below meth c H locs (100 + i * 1200 + 0 + 0 + 80 + 225 + 1 + 1 + 1 + 1 + 1 + 1 + j * 3 + 1) (1000 + i * 8000 + 0 + 0 + 480 + 1350 + 6 + 5 + 6 + 6 + 6 + 6 + j * 18 + 6) (lw_Z below #[Value.ref b] s) (F0 m 203 ls []) := by
                                    intro n
                                    induction n with
                                    | zero => intro k H locs ls h0; exact absurd h0 (Nat.not_lt_zero _)
                                    | succ n ih203 =>
                                      intro k H locs ls hms hk5 hP hD hS hl
                                      refine lv_iload hx hb dL_law_203 (lv_at hl 0 rfl) ?_
                                      refine lv_iconst (v := zI 5) hx hb dL_law_205 rfl ?_
                                      refine z_icmp_ge (tgt := 229) hx hb dL_law_206 (by decide) (by omega) (by omega) (fun cd206 => ?_) (fun cd206 => ?_)
                                      · skip
                                        refine lv_aload hx hb dL_law_229 (lv_at hl 1 rfl) ?_
                                        refine lv_astore_n (lv' := [(2, .ref (n0)), (8, .int (zI ((k : Int)))), (7, .ref (n0)), (3, .int (zI (wn))), (6, .int (zI (wn))), (5, .int (zI (ro))), (4, .int (zI ((i : Int)))), (1, .ref (a 0)), (0, .ref (b))]) hx hb dL_law_231 rfl hl (by decide) rfl (fun ls hl => ?_)
                                        refine lv_iload hx hb dL_law_232 (lv_at hl 6 rfl) ?_
                                        refine lv_bipush (v := zI 6) hx hb dL_law_234 (by decide +kernel) ?_
                                        refine z_irem hx hb dL_law_236 (by omega) (by omega) ?_
                                        refine lv_iconst (v := zI 5) hx hb dL_law_237 rfl ?_
                                        refine z_icmp_ne (tgt := 252) hx hb dL_law_238 (by decide) (by omega) (by omega) (fun cd238 => ?_) (fun cd238 => ?_)
                                        · skip
                                          refine lv_iinc (v := zI ((i : Int) + 1)) (lv' := [(4, .int (zI ((i : Int) + 1))), (2, .ref (n0)), (8, .int (zI ((k : Int)))), (7, .ref (n0)), (3, .int (zI (wn))), (6, .int (zI (wn))), (5, .int (zI (ro))), (1, .ref (a 0)), (0, .ref (b))]) hx hb dL_law_252 hl (k := 6) rfl (zI_add _ _) (by decide) rfl (fun ls hl => ?_)
                                          refine lv_goto (tgt := 39) hx hb dL_law_255 (by decide) ?_
                                          have hP := lw_dropP hP
                                          have hD := lw_dropD hD
                                          refine W.widen (k := 100 + (i + 1) * 1200) (n := 1000 + (i + 1) * 8000) (by omega) (by omega) ?_
                                          exact ih39 (i + 1) qd σd wn g n0 H locs ls (by omega) (by omega) (okA_mono hO (by omega) (by omega)) h05d (by omega) (fun h => by have oL9 := hO.2.2.2.2.2.1; unfold okL at oL9; omega) hgn hP hD hS (by have h9 := lv_sub hl [0, 4, 1, 7, 8] rfl; exact h9)
                                        · skip
                                          refine lv_aload_n hx hb dL_law_241 rfl (lv_at hl 7 rfl) ?_
                                          refine lv_iload hx hb dL_law_242 (lv_at hl 5 rfl) ?_
                                          refine va_calli (va_runS (As := [.ref (a 0), .int (zI (ro))]) (rest := []) ⟨hx, hb, hml, hown, hts⟩ (c_L_isAsked l D cy a qd σd H.size J (ro) (by omega) hlT _ hO (by first | assumption | omega)) (va_cwS 2 hts gL_law_L_isAsked rfl rfl rfl (by decide +kernel) ⟨Nat.le_of_ble_eq_true rfl, Nat.le_of_ble_eq_true rfl⟩) ⟨WdJ_blind, fun U hU hW => ⟨rfl, by rw [hU], Wd_mkL (wP_left hP) hKy hinj hU0 hN0 hstr hnest hS (fun _ h => hAw _ hS.1 _ h) hU hW, (hZ.mk hS hU hW).narrow (fun x h => hAw _ hS.1 _ h)⟩⟩ rfl rfl hl.1 rfl (lv_room (Nat.le_of_ble_eq_true rfl)) dL_law_244 ⟨(show 100 + i * 1200 + 0 + 0 + 80 + 225 + 1 + 1 + 1 + 1 + 1 + 1 + j * 3 + 1 + 810 ≤ 871361 by omega), (show 1000 + i * 8000 + 0 + 0 + 480 + 1350 + 6 + 5 + 6 + 6 + 6 + 6 + j * 18 + 6 + 4900 ≤ 6487687 by omega)⟩) hS (fun _ _ h => hAw _ hS.1 _ h) (fun _ h => hAw _ hS.1 _ h) (fun rv244 u9 t9 H locs ht hvm hw hB hz hk hS1 => ?_)
                                          have hB1 : va_P D vwCl (wld cy a qd σd) t9.heap := hB.1
                                          rw [ht] at hB1
                                          obtain ⟨hP, hD⟩ := wd_join hP hD hk hB1
                                          have hS := hS1
                                          obtain rfl := hw
                                          refine z_if_ne (tgt := 252) hx hb dL_law_247 (by decide) (by decide) (fun _ => ?_) (fun cd247 => absurd cd247 (by decide))
                                          refine lv_iinc (v := zI ((i : Int) + 1)) (lv' := [(4, .int (zI ((i : Int) + 1))), (2, .ref (n0)), (8, .int (zI ((k : Int)))), (7, .ref (n0)), (3, .int (zI (wn))), (6, .int (zI (wn))), (5, .int (zI (ro))), (1, .ref (a 0)), (0, .ref (b))]) hx hb dL_law_252 hl (k := 6) rfl (zI_add _ _) (by decide) rfl (fun ls hl => ?_)
                                          refine lv_goto (tgt := 39) hx hb dL_law_255 (by decide) ?_
                                          have hP := lw_dropP hP
                                          have hD := lw_dropD hD
                                          refine W.widen (k := 100 + (i + 1) * 1200) (n := 1000 + (i + 1) * 8000) (by omega) (by omega) ?_
                                          exact ih39 (i + 1) qd σd wn g n0 H locs ls (by omega) (by omega) (okA_mono hO (by omega) (by omega)) h05d (by omega) (fun h => by have oL9 := hO.2.2.2.2.2.1; unfold okL at oL9; omega) hgn hP hD hS (by have h9 := lv_sub hl [0, 4, 1, 7, 8] rfl; exact h9)
                                      · skip
                                        refine lv_aload hx hb dL_law_209 (lv_at hl 1 rfl) ?_
                                        refine lv_iload hx hb dL_law_211 (lv_at hl 0 rfl) ?_
                                        refine z_iald hx hb hK hP 63 4 lw_p63 rfl k rfl (by omega) dL_law_213 ?_
                                        refine lv_aload_n hx hb dL_law_214 rfl (lv_at hl 6 rfl) ?_
                                        refine lv_iload hx hb dL_law_215 (lv_at hl 0 rfl) ?_
                                        refine z_iald hx hb hK hP 62 4 lw_p62 rfl k rfl (by omega) dL_law_217 ?_
                                        refine z_icmp_ge (tgt := 223) hx hb dL_law_218 (by decide) (hfg k (by omega)).2.1 (hfg k (by omega)).1 (fun cd218 => ?_) (fun cd218 => ?_)
                                        · skip
                                          refine lv_iinc (v := zI ((k : Int) + 1)) (lv' := [(8, .int (zI ((k : Int) + 1))), (7, .ref (n0)), (3, .int (zI (wn))), (6, .int (zI (wn))), (5, .int (zI (ro))), (4, .int (zI ((i : Int)))), (2, .ref (l0)), (1, .ref (a 0)), (0, .ref (b))]) hx hb dL_law_223 hl (k := 0) rfl (zI_add _ _) (by decide) rfl (fun ls hl => ?_)
                                          refine lv_goto (tgt := 203) hx hb dL_law_226 (by decide) ?_
                                          exact ih203 (k + 1) H locs ls (by omega) (by omega) hP hD hS (by have h9 := lv_sub hl [0, 1, 2, 3, 4, 5, 6, 7, 8] rfl; exact h9)
                                        · skip
                                          exact absurd (hfg k (by omega)).2.2 cd218
                                  exact loop203 (7) 0 H locs ls (by omega) (by omega) hP hD hS (by have h9 := lv_sub hl [0, 1, 2, 3, 4, 5, 6, 7, 8] rfl; exact h9)
                                · skip
                                  refine lv_aload hx hb dL_law_179 (lv_at hl 1 rfl) ?_
                                  refine lv_iconst (v := zI 4) hx hb dL_law_181 rfl ?_
                                  refine lv_dup2_11 hx hb dL_law_182 rfl rfl ?_
                                  refine z_iald hx hb hK hP 63 4 lw_p63 rfl 4 rfl (by decide) dL_law_183 ?_
                                  refine lv_aload_n hx hb dL_law_184 rfl (lv_at hl 7 rfl) ?_
                                  refine lv_iload hx hb dL_law_185 (lv_at hl 0 rfl) ?_
                                  refine lv_bipush (v := zI 9) hx hb dL_law_187 (by decide +kernel) ?_
                                  refine vx_calli (vx_runV (As := [.int (zI ((j : Int))), .int (zI (9))]) (rest := [.int (zI (g 4)), .int (zI (4)), .ref (n0)]) ⟨hx, hb, hml, hown, hts⟩ (c_X7_ofCrane l hlT D cy a qd σd H.size ((j : Int)) (by omega) (9) (by omega) _ _ hO) (cwV 2 hts gL_law_X7_ofCrane rfl rfl rfl (by decide +kernel) ⟨Nat.le_of_ble_eq_true rfl, Nat.le_of_ble_eq_true rfl⟩) ⟨Wd_blind, va_recv hK hP (ci := 9) (q0 := 0) rfl wg_S, fun U hU hW => ⟨rfl, by rw [hU], Wd_mkL (wP_left hP) hKy hinj hU0 hN0 hstr hnest hS (fun _ h => hAw _ hS.1 _ h) hU hW⟩⟩ rfl rfl hl.1 rfl (lv_room (Nat.le_of_ble_eq_true rfl)) dL_law_189 ⟨(show 100 + i * 1200 + 0 + 0 + 80 + 225 + 1 + 1 + 1 + 1 + 1 + 1 + j * 3 + 1 + 2 ≤ 871361 by omega), (show 1000 + i * 8000 + 0 + 0 + 480 + 1350 + 6 + 5 + 6 + 6 + 6 + 6 + j * 18 + 6 + 12 ≤ 6487687 by omega)⟩) hS (fun _ _ h => h.elim) (fun _ h => hAw _ hS.1 _ h) (fun _ _ h => h.elim) (fun E9 ce9 q9 u9 t9 H locs ht hvm hpx hE hz hk hS1 hce hcv hcl => ?_) (fun rv189 u9 t9 H locs ht hvm hw hB hz hk hS1 => ?_)
                                  · skip
                                    exact absurd hpx (by omega)
                                  · skip
                                    have hP := hP.kept (fun k x hk9 => hk x.1 ((hP k x hk9).lt) (fun h => h))
                                    have hS := hS1
                                    obtain rfl := hw
                                    rw [show ofF σd (j : Int).toNat (9 : Int) = σd (3 + j) 11 from by rw [Int.toNat_natCast]; rfl]
                                    refine z_iadd hx hb dL_law_192 ?_
                                    refine z_iast hx hb hK hP hD hS 63 4 lw_p63 rfl 4 rfl (by decide) dL_law_193 (fun H locs hP hD hS => ?_)
                                    rw [lw_s63] at hP hD
                                    refine lv_iinc (v := zI ((j : Int) + 1)) (lv' := [(8, .int (zI ((j : Int) + 1))), (7, .ref (n0)), (3, .int (zI (wn))), (6, .int (zI (wn))), (5, .int (zI (ro))), (4, .int (zI ((i : Int)))), (2, .ref (l0)), (1, .ref (a 0)), (0, .ref (b))]) hx hb dL_law_194 hl (k := 0) rfl (zI_add _ _) (by decide) rfl (fun ls hl => ?_)
                                    refine lv_goto (tgt := 168) hx hb dL_law_197 (by decide) ?_
                                    refine W.widen (k := 100 + i * 1200 + 0 + 0 + 80 + 225 + 1 + 1 + 1 + 1 + 1 + 1 + (j + 1) * 3) (n := 1000 + i * 8000 + 0 + 0 + 480 + 1350 + 6 + 5 + 6 + 6 + 6 + 6 + (j + 1) * 18) (by omega) (by omega) ?_
                                    exact ih168 (j + 1) (upr g 4 ((g 4) + (σd (3 + j) 11))) H locs ls (by omega) (by omega) ⟨(upr_n (by decide)).trans hg.1, (upr_n (by decide)).trans hg.2.1, (upr_n (by decide)).trans hg.2.2.1, (upr_n (by decide)).trans hg.2.2.2.1, by rw [upr_s, hg.2.2.2.2]; rfl⟩ hP hD hS (by have h9 := lv_sub hl [0, 1, 2, 3, 4, 5, 6, 7, 8] rfl; exact h9)
                          refine W.widen (k := 100 + i * 1200 + 0 + 0 + 80 + 225 + 1 + 1 + 1 + 1 + 1 + 1 + 0 * 3) (n := 1000 + i * 8000 + 0 + 0 + 480 + 1350 + 6 + 5 + 6 + 6 + 6 + 6 + 0 * 18) (by omega) (by omega) ?_
                          exact loop168 (5) 0 g H locs ls (by omega) (by omega) hg0 hP hD hS (by have h9 := lv_sub hl [0, 1, 2, 3, 4, 5, 6, 7, 8] rfl; exact h9)
                refine z_if_eq (tgt := 118) hx hb dL_law_109 (by decide) (by omega) (fun cd109 => ?_) (fun cd109 => ?_)
                · skip
                  exact join118
                · skip
                  refine lv_iload_n hx hb dL_law_112 rfl (lv_at hl 3 rfl) ?_
                  refine z_if_ne (tgt := 118) hx hb dL_law_113 (by decide) (by omega) (fun cd113 => ?_) (fun cd113 => ?_)
                  · skip
                    exact join118
                  · skip
                    exact absurd (hw0 cd113) (by have h9 := hEd.2.2.2.2.2.2; omega)
              refine z_icmp_ne (tgt := 104) hx hb dL_law_97 (by decide) (by omega) (by omega) (fun cd97 => ?_) (fun cd97 => ?_)
              · skip
                refine lv_iconst (v := zI 0) hx hb dL_law_104 rfl ?_
                exact join105 0 (by omega)
              · skip
                refine lv_iconst (v := zI 1) hx hb dL_law_100 rfl ?_
                refine lv_goto (tgt := 105) hx hb dL_law_101 (by decide) ?_
                exact join105 1 (by omega)
      refine W.widen (k := 100 + 0 * 1200) (n := 1000 + 0 * 8000) (by omega) (by omega) ?_
      exact loop39 (62) 0 qc26 σc26 1 (fun _ => 0) q31 H locs ls (by omega) (by omega) (okA_mono hO2 (by omega) (by omega)) h052 (Or.inr rfl) (fun h => absurd h (by decide)) (nrL_0 hO2) hP hD hS (by have h9 := lv_sub hl [0, 1, 2, 3, 4] rfl; exact h9)
