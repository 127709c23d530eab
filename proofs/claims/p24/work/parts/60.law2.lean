/-! WHAT IS ASKED -/
theorem lg_same (x : Int64) : lg_cmp x x = zI 0 := by
  unfold lg_cmp
  simp
  rfl
theorem cpF_mono {r : Nat → Int} (h : 0 ≤ r 9 ∧ r 9 ≤ r 8 ∧ r 8 ≤ r 7 ∧ r 7 ≤ r 6 ∧ r 6 ≤ 99) (d w : Int) (hd : 10 ≤ d) : cpF r d w ≤ cpF r 10 w := by
  have h1 := cpL_b h d hd
  have h2 : tlF r (d / 10) ≤ r 6 := by
    unfold tlF
    repeat' split
    all_goals omega
  have h3 : cpL r 10 = r 6 := by
    unfold cpL
    have e1 : (10 : Int) / 10 = 1 := by decide
    have e2 : (10 : Int) % 10 = 0 := by decide
    rw [e1, e2, Int.mul_zero]
    unfold tlF
    rw [if_pos rfl]
    omega
  have h4 : cpL r d ≤ r 6 := by
    have e : cpL r d = tlF r (d / 10) - ((tlF r (d / 10) - tlF r (d / 10 + 1)) * (d % 10) + 9) / 10 := rfl
    omega
  unfold cpF cpM mxI
  repeat' split
  all_goals omega
theorem beR_mono {r : Nat → Int} (h : 0 ≤ r 9 ∧ r 9 ≤ r 8 ∧ r 8 ≤ r 7 ∧ r 7 ≤ r 6 ∧ r 6 ≤ 99) (d : Int) (hd : 10 ≤ d) : ∀ n : Nat, beR r d n ≤ beR r 10 n
  | 0 => Int.le_refl _
  | n + 1 => by
    have h1 := beR_mono h d hd n
    have h2 := cpF_mono h d n hd
    have h3 := beR_b r d n
    have e1 : beR r d (n + 1) = if 1 ≤ cpF r d n then (n : Int) else beR r d n := rfl
    have e2 : beR r 10 (n + 1) = if 1 ≤ cpF r 10 n then (n : Int) else beR r 10 n := rfl
    rw [e1, e2]
    repeat' split
    all_goals omega
set_option maxHeartbeats 4000000 in
set_option maxRecDepth 100000 in
/-- L_isAsked -/
theorem c_L_isAsked (l : Launch) (D : va_G) (cy : Nat → ClassId) (a q : Nat → Nat) (σ : Nat → Nat → Int) (sz : Nat) (J : jT) (v : Int) (hv : rg v) (hlT : l.stackTraces = false) (t0 : Int) (hO : okA t0 (σ 1 5) q σ) (hc1 : 1 ≤ σ 0 5) : Met l yL_isAsked wsL_isAsked ({ frames := 15, cells := 810, slots := 4900, locals := 900 }) (va_Pc [.ref (a 0), .int (zI (v))] (fun U => U.heap.size = sz ∧ Wd D cy a q σ U ∧ jZ J D (wF a sz) U)) (va_Qi (fun (r : Int32) (_ : Unit) => r = zI (1)) (fun _ t => Wd D cy a q σ t) (wF a sz)) 810 4900 (wF a sz) := by
  refine Met.ofW (cc := cL_isAsked) (maxL := 9) (ret := (some .boolean)) (by decide) rfl ?_
  intro p e s m args below meth c s₁ B hml hpc0
  obtain ⟨rfl, hsz, hW0, hZ⟩ := hpc0
  have hx := B.exec
  have hb := B.bytes
  have hr := B.returns
  have hts := atoms_spec (ws := wsL_isAsked) B.pre
  have hown : s.vm.findClass RL = some m.cls := findClass_of_methodNamed B.named
  have hlocks := B.notSynchronized
  subst hsz
  obtain ⟨hP00, hE0⟩ := id hW0
  obtain ⟨hK, hinj, hU0, hN0, hstr, hnest⟩ := id hE0
  have hP : va_P D vwCl (wld cy a q σ ++ []) s.heap := by rw [List.append_nil]; exact hP00
  have hD : va_D (wF a s.heap.size) (wld cy a q σ ++ []) := wD_of hinj
  have hA : ∀ x : Nat, s.heap.size ≤ x → wF a s.heap.size x := fun _ h => Or.inr h
  have hS : va_S (wF a s.heap.size) s.heap s.heap [] := va_S.rf
  have hk0 : ∀ x : Nat, x < s.heap.size → s.heap[x]? = s.heap[x]? := fun _ _ => rfl
  have hl := lv_entry ([.ref (a 0), .int (zI (v))]) (n := 9) (Nat.le_of_ble_eq_true rfl)
  rw [lg_entry_eq]
  generalize (lg_sl ([.ref (a 0), .int (zI (v))]) ++ List.replicate (9 - (lg_sl ([.ref (a 0), .int (zI (v))])).length) Slot.unset).toArray = ls at hl ⊢
  have hl : lv_has ls 9 [(0, .ref (a 0)), (1, .int (zI (v)))] := hl
  obtain ⟨oS, oW, oC, oZ, oM, oL, oP, oQ, oH⟩ := id hO
  unfold okS at oS; unfold okW at oW; unfold okL at oL
  have hs2 := shI_rg v 2
  have hs3 := shI_rg v 3
  have hs4 := shI_rg v 4
  refine lv_aload_n hx hb dL_isAsked_0 rfl (lv_at hl 0 rfl) ?_
  refine va_calll (va_runV (As := []) (rest := []) ⟨hx, hb, hml, hown, hts⟩ (c_X7_digest l D cy a q σ s.heap.size J hlT _ hO) (cwV 0 hts gL_isAsked_X7_digest rfl rfl rfl (by decide +kernel) ⟨Nat.le_of_ble_eq_true rfl, Nat.le_of_ble_eq_true rfl⟩) ⟨WdJ_blind, va_recv hK hP (ci := 9) (q0 := 0) rfl wg_S, fun U hU hW => ⟨rfl, by rw [hU], Wd_mk (wP_left hP) hE0 hS hU hW, (hZ.mk hS hU hW).narrow (fun x h => wF_mono hS.1 x h)⟩⟩ rfl rfl hl.1 rfl (lv_room (Nat.le_of_ble_eq_true rfl)) dL_isAsked_1 ⟨(show 0 + 373 ≤ 810 by omega), (show 0 + 2254 ≤ 4900 by omega)⟩) hS (fun _ _ h => wF_mono hS.1 _ h) (fun _ h => wF_mono hS.1 _ h) (fun rv1 u9 t9 H locs ht hvm hw hB hz hk hS1 => ?_)
  have hB1 : va_P D vwCl (wld cy a q σ) t9.heap := hB.1
  rw [ht] at hB1
  obtain ⟨hP, hD⟩ := wd_join hP hD hk hB1
  have hS := hS1
  obtain rfl := hw
  refine lv_lstore_n (lv' := [(2, .long (dG q σ)), (0, .ref (a 0)), (1, .int (zI (v)))]) hx hb dL_isAsked_4 rfl hl (by decide) rfl (fun ls hl => ?_)
  refine lv_iconst (v := zI 0) hx hb dL_isAsked_5 rfl ?_
  refine lv_istore (lv' := [(4, .int (zI (0))), (2, .long (dG q σ)), (0, .ref (a 0)), (1, .int (zI (v)))]) hx hb dL_isAsked_6 hl (by decide) rfl (fun ls hl => ?_)
  have loop8 : ∀ (n : Nat) (i : Nat) (H : Heap) (locs : List Loc) (ls : Array Slot), 3 - i < n → ((i : Int) ≤ σ 0 5) → va_P D vwCl (wld cy a q σ ++ []) H → va_D (wF a s.heap.size) (wld cy a q σ ++ []) → va_S (wF a s.heap.size) s.heap H locs → lv_has ls 9 [(0, .ref (a 0)), (1, .int (zI (v))), (2, .long (dG q σ)), (4, .int (zI ((i : Int))))] → W p l e (headSpec wsL_isAsked ({ frames := 15, cells := 810, slots := 4900, locals := 900 })).room s m ([.ref (a 0), .int (zI (v))] : List Value).toArray below meth c H locs (373 + i * 17) (2254 + i * 102) (MQ below (va_Qi (fun (r : Int32) (_ : Unit) => r = zI (1)) (fun _ t => Wd D cy a q σ t) (wF a s.heap.size)) ([.ref (a 0), .int (zI (v))] : List Value).toArray s 810 4900 (wF a s.heap.size)) (F0 m 8 ls []) := by
    intro n
    induction n with
    | zero => intro i H locs ls h0; exact absurd h0 (Nat.not_lt_zero _)
    | succ n ih8 =>
      intro i H locs ls hms hi hP hD hS hl
      refine lv_iload hx hb dL_isAsked_8 (lv_at hl 3 rfl) ?_
      refine lv_aload_n hx hb dL_isAsked_10 rfl (lv_at hl 0 rfl) ?_
      refine lv_bipush (v := zI 8) hx hb dL_isAsked_11 (by decide +kernel) ?_
      refine vx_calli (vx_runV (As := [.int (zI (8))]) (rest := [.int (zI ((i : Int)))]) ⟨hx, hb, hml, hown, hts⟩ (c_X7_site l hlT D cy a q σ H.size (8) (by omega) _ _ hO) (cwV 1 hts gL_isAsked_X7_site rfl rfl rfl (by decide +kernel) ⟨Nat.le_of_ble_eq_true rfl, Nat.le_of_ble_eq_true rfl⟩) ⟨Wd_blind, va_recv hK hP (ci := 9) (q0 := 0) rfl wg_S, fun U hU hW => ⟨rfl, by rw [hU], Wd_mk (wP_left hP) hE0 hS hU hW⟩⟩ rfl rfl hl.1 rfl (lv_room (Nat.le_of_ble_eq_true rfl)) dL_isAsked_13 ⟨(show 373 + i * 17 + 1 ≤ 810 by omega), (show 2254 + i * 102 + 6 ≤ 4900 by omega)⟩) hS (fun _ _ h => h.elim) (fun _ h => wF_mono hS.1 _ h) (fun _ _ h => h.elim) (fun E9 ce9 q9 u9 t9 H locs ht hvm hpx hE hz hk hS1 hce hcv hcl => ?_) (fun rv13 u9 t9 H locs ht hvm hw hB hz hk hS1 => ?_)
      · skip
        exact absurd hpx (by omega)
      · skip
        have hP := hP.kept (fun k x hk9 => hk x.1 ((hP k x hk9).lt) (fun h => h))
        have hS := hS1
        obtain rfl := hw
        rw [show siF q σ (8 : Int) = σ 0 5 from rfl]
        refine z_icmp_ge (tgt := 202) hx hb dL_isAsked_16 (by decide) (by omega) (by omega) (fun cd16 => ?_) (fun cd16 => ?_)
        · skip
          refine lv_aload_n hx hb dL_isAsked_202 rfl (lv_at hl 0 rfl) ?_
          refine va_callr (va_runV (As := []) (rest := []) ⟨hx, hb, hml, hown, hts⟩ (c_X7_jibs l D cy a q σ H.size J t0 (σ 1 5) hO) (cwV 0 hts gL_isAsked_X7_jibs rfl rfl rfl (by decide +kernel) ⟨Nat.le_of_ble_eq_true rfl, Nat.le_of_ble_eq_true rfl⟩) ⟨WdJ_blind, va_recv hK hP (ci := 9) (q0 := 0) rfl wg_S, fun U hU hW => ⟨rfl, by rw [hU], Wd_mk (wP_left hP) hE0 hS hU hW, (hZ.mk hS hU hW).narrow (fun x h => wF_mono hS.1 x h)⟩⟩ rfl rfl hl.1 rfl (lv_room (Nat.le_of_ble_eq_true rfl)) dL_isAsked_203 ⟨(show 373 + i * 17 + 1 + 4 ≤ 810 by omega), (show 2254 + i * 102 + 6 + 40 ≤ 4900 by omega)⟩) hS (fun _ _ h => wF_mono hS.1 _ h) (fun _ h => wF_mono hS.1 _ h) (fun u9 ra9 t9 H locs ht hvm hw hB hz hk hS1 => ?_)
          obtain ⟨wq, gq⟩ := u9
          obtain ⟨hP9, hD9⟩ := hB
          rw [ht] at hP9
          dsimp only at hP9 hD9
          have hP := hP9
          have hD := hD9.weaken (fun _ _ _ h => wF_mono hS.1 _ h)
          have hS := hS1
          have hKJ := hZ.1
          refine va_calli (va_runV (As := []) (rest := []) ⟨hx, hb, hml, hown, hts⟩ (c_J0_length_8abf5 l D J (wF a s.heap.size) H.size (fun y h => Or.inr (Nat.le_trans hS.1 h)) _ ra9 wq gq (jL σ (σ 0 5).toNat).toNat 62 js_at62 63 js_at63) (cwV 0 hts gL_isAsked_J0_length_8abf5 rfl rfl rfl (by decide +kernel) ⟨Nat.le_of_ble_eq_true rfl, Nat.le_of_ble_eq_true rfl⟩) ⟨jW_blind, va_recv hKJ hP (ci := 0) (q0 := 62) rfl js_at62, fun U hU hW => ⟨rfl, by rw [hU], jW_mk hP hD hZ hS hU hW⟩⟩ rfl rfl hl.1 rfl (lv_room (Nat.le_of_ble_eq_true rfl)) dL_isAsked_206 ⟨(show 373 + i * 17 + 1 + 4 + 0 ≤ 810 by omega), (show 2254 + i * 102 + 6 + 40 + 0 ≤ 4900 by omega)⟩) hS (fun _ _ h => h.elim) (fun _ h => h) (fun rv9 u9 t9 H locs ht hvm hw hB hz hk hS1 => ?_)
          have hP := hP.kept (fun k x hk9 => hk x.1 ((hP k x hk9).lt) (fun h => h))
          have hS := hS1
          obtain rfl := hw
          have hjl : (((jL σ (σ 0 5).toNat).toNat : Nat) : Int) = jL σ (σ 0 5).toNat := by have := jL_b (σ := σ) (σ 0 5).toNat; omega
          rw [hjl]
          have hjb9 := jL_b (σ := σ) (σ 0 5).toNat
          refine lv_iconst (v := zI 2) hx hb dL_isAsked_209 rfl ?_
          refine z_icmp_lt (tgt := 226) hx hb dL_isAsked_210 (by decide) (by omega) (by omega) (fun cd210 => ?_) (fun cd210 => ?_)
          · skip
            refine lv_iconst (v := zI 0) hx hb dL_isAsked_226 rfl ?_
            refine W.widen (k := 810) (n := 4900) (by omega) (by omega) ?_
            exact W.zret (v := zI (0)) (ty := .boolean) hx hb hr (by decide +kernel) (fun t9 ht hW => ⟨⟨_, (), rfl, (by exfalso; omega), Wd_mk (wP_left hP) hE0 hS ht hW⟩, hS.F ht⟩) hS.2.2 dL_isAsked_227
          · skip
            refine lv_aload_n hx hb dL_isAsked_213 rfl (lv_at hl 0 rfl) ?_
            refine va_calll (va_runV (As := []) (rest := []) ⟨hx, hb, hml, hown, hts⟩ (c_X7_digest l D cy a q σ H.size J hlT _ hO) (cwV 0 hts gL_isAsked_X7_digest rfl rfl rfl (by decide +kernel) ⟨Nat.le_of_ble_eq_true rfl, Nat.le_of_ble_eq_true rfl⟩) ⟨WdJ_blind, va_recv hK hP (ci := 9) (q0 := 0) rfl wg_S, fun U hU hW => ⟨rfl, by rw [hU], Wd_mk (wP_left hP) hE0 hS hU hW, (hZ.mk hS hU hW).narrow (fun x h => wF_mono hS.1 x h)⟩⟩ rfl rfl hl.1 rfl (lv_room (Nat.le_of_ble_eq_true rfl)) dL_isAsked_214 ⟨(show 373 + i * 17 + 1 + 4 + 0 + 373 ≤ 810 by omega), (show 2254 + i * 102 + 6 + 40 + 0 + 2254 ≤ 4900 by omega)⟩) hS (fun _ _ h => wF_mono hS.1 _ h) (fun _ h => wF_mono hS.1 _ h) (fun rv214 u9 t9 H locs ht hvm hw hB hz hk hS1 => ?_)
            have hB1 : va_P D vwCl (wld cy a q σ) t9.heap := hB.1
            rw [ht] at hB1
            obtain ⟨hP, hD⟩ := wd_join hP hD hk hB1
            have hS := hS1
            obtain rfl := hw
            refine lv_lload_n hx hb dL_isAsked_217 rfl (lv_at hl 2 rfl) ?_
            refine W.lcmp hx hb dL_isAsked_218 ?_
            rw [show lg_cmp (dG q σ) (dG q σ) = zI 0 from lg_same _]
            refine z_if_ne (tgt := 226) hx hb dL_isAsked_219 (by decide) (by decide) (fun cd219 => absurd cd219 (by decide)) (fun _ => ?_)
            refine lv_iconst (v := zI 1) hx hb dL_isAsked_222 rfl ?_
            refine lv_goto (tgt := 227) hx hb dL_isAsked_223 (by decide) ?_
            refine W.widen (k := 810) (n := 4900) (by omega) (by omega) ?_
            exact W.zret (v := zI (1)) (ty := .boolean) hx hb hr (by decide +kernel) (fun t9 ht hW => ⟨⟨_, (), rfl, rfl, Wd_mk (wP_left hP) hE0 hS ht hW⟩, hS.F ht⟩) hS.2.2 dL_isAsked_227
        · skip
          have oCi := oC i (by omega); unfold okC at oCi
          refine lv_aload_n hx hb dL_isAsked_19 rfl (lv_at hl 0 rfl) ?_
          refine lv_iload hx hb dL_isAsked_20 (lv_at hl 3 rfl) ?_
          refine lv_iconst (v := zI 0) hx hb dL_isAsked_22 rfl ?_
          refine vx_calli (vx_runV (As := [.int (zI ((i : Int))), .int (zI (0))]) (rest := []) ⟨hx, hb, hml, hown, hts⟩ (c_X7_ofCrane l hlT D cy a q σ H.size ((i : Int)) (by omega) (0) (by omega) _ _ hO) (cwV 2 hts gL_isAsked_X7_ofCrane rfl rfl rfl (by decide +kernel) ⟨Nat.le_of_ble_eq_true rfl, Nat.le_of_ble_eq_true rfl⟩) ⟨Wd_blind, va_recv hK hP (ci := 9) (q0 := 0) rfl wg_S, fun U hU hW => ⟨rfl, by rw [hU], Wd_mk (wP_left hP) hE0 hS hU hW⟩⟩ rfl rfl hl.1 rfl (lv_room (Nat.le_of_ble_eq_true rfl)) dL_isAsked_23 ⟨(show 373 + i * 17 + 1 + 2 ≤ 810 by omega), (show 2254 + i * 102 + 6 + 12 ≤ 4900 by omega)⟩) hS (fun _ _ h => h.elim) (fun _ h => wF_mono hS.1 _ h) (fun _ _ h => h.elim) (fun E9 ce9 q9 u9 t9 H locs ht hvm hpx hE hz hk hS1 hce hcv hcl => ?_) (fun rv23 u9 t9 H locs ht hvm hw hB hz hk hS1 => ?_)
          · skip
            exact absurd hpx (by omega)
          · skip
            have hP := hP.kept (fun k x hk9 => hk x.1 ((hP k x hk9).lt) (fun h => h))
            have hS := hS1
            obtain rfl := hw
            rw [show ofF σ (i : Int).toNat (0 : Int) = σ (3 + i) 1 from rfl]
            refine lv_istore (lv' := [(5, .int (zI (σ (3 + i) 1))), (0, .ref (a 0)), (1, .int (zI (v))), (2, .long (dG q σ)), (4, .int (zI ((i : Int))))]) hx hb dL_isAsked_26 hl (by decide) rfl (fun ls hl => ?_)
            refine lv_bipush (v := zI 10) hx hb dL_isAsked_28 (by decide +kernel) ?_
            refine lv_iload_n hx hb dL_isAsked_30 rfl (lv_at hl 2 rfl) ?_
            refine lv_iconst (v := zI 3) hx hb dL_isAsked_31 rfl ?_
            refine z_ishr hx hb dL_isAsked_32 ?_
            refine lv_iload hx hb dL_isAsked_33 (lv_at hl 0 rfl) ?_
            refine lv_bipush (v := zI 9) hx hb dL_isAsked_35 (by decide +kernel) ?_
            refine z_isub hx hb dL_isAsked_37 ?_
            refine va_calli (va_runS (As := [.int (zI (shI v 3)), .int (zI ((σ (3 + i) 1) - 9))]) (rest := [.int (zI (10))]) ⟨hx, hb, hml, hown, hts⟩ (c_L_below l (shI v 3) (by omega) ((σ (3 + i) 1) - 9) (by omega) (by first | assumption | omega)) (va_cwS 2 hts gL_isAsked_L_below rfl rfl rfl (by decide +kernel) ⟨Nat.le_of_ble_eq_true rfl, Nat.le_of_ble_eq_true rfl⟩) ⟨fun _ _ _ _ h => h, fun _ _ _ => ⟨rfl, trivial⟩⟩ rfl rfl hl.1 rfl (lv_room (Nat.le_of_ble_eq_true rfl)) dL_isAsked_38 ⟨(show 373 + i * 17 + 1 + 2 + 0 ≤ 810 by omega), (show 2254 + i * 102 + 6 + 12 + 0 ≤ 4900 by omega)⟩) hS (fun _ _ h => h.elim) (fun _ h => h.elim) (fun rv38 u9 t9 H locs ht hvm hw hB hz hk hS1 => ?_)
            have hP := hP.kept (fun k x hk9 => hk x.1 ((hP k x hk9).lt) (fun h => h))
            have hS := hS1
            obtain rfl := hw
            have hb38 : 0 ≤ (shI v 3) % 2147483648 % ((σ (3 + i) 1) - 9) ∧ (shI v 3) % 2147483648 % ((σ (3 + i) 1) - 9) < σ (3 + i) 1 - 9 := ⟨Int.emod_nonneg _ (by omega), Int.emod_lt_of_pos _ (by omega)⟩
            refine z_iadd hx hb dL_isAsked_41 ?_
            refine lv_istore (lv' := [(6, .int (zI (10 + ((shI v 3) % 2147483648 % ((σ (3 + i) 1) - 9))))), (5, .int (zI (σ (3 + i) 1))), (0, .ref (a 0)), (1, .int (zI (v))), (2, .long (dG q σ)), (4, .int (zI ((i : Int))))]) hx hb dL_isAsked_42 hl (by decide) rfl (fun ls hl => ?_)
            obtain ⟨rr, err⟩ : ∃ z : Int, z = 10 + ((shI v 3) % 2147483648 % ((σ (3 + i) 1) - 9)) := ⟨_, rfl⟩
            rw [← err] at hl
            have hrr : 10 ≤ rr ∧ rr ≤ σ (3 + i) 1 := by rw [err]; omega
            refine lv_aload_n hx hb dL_isAsked_44 rfl (lv_at hl 2 rfl) ?_
            refine lv_iload hx hb dL_isAsked_45 (lv_at hl 5 rfl) ?_
            refine lv_iconst (v := zI 1) hx hb dL_isAsked_47 rfl ?_
            refine lv_iload_n hx hb dL_isAsked_48 rfl (lv_at hl 3 rfl) ?_
            refine lv_iconst (v := zI 4) hx hb dL_isAsked_49 rfl ?_
            refine z_ishr hx hb dL_isAsked_50 ?_
            refine lv_bipush (v := zI 60) hx hb dL_isAsked_51 (by decide +kernel) ?_
            refine va_calli (va_runS (As := [.int (zI (shI v 4)), .int (zI (60))]) (rest := [.int (zI (1)), .int (zI ((i : Int))), .ref (a 0)]) ⟨hx, hb, hml, hown, hts⟩ (c_L_below l (shI v 4) (by omega) (60) (by omega) (by first | assumption | omega)) (va_cwS 2 hts gL_isAsked_L_below rfl rfl rfl (by decide +kernel) ⟨Nat.le_of_ble_eq_true rfl, Nat.le_of_ble_eq_true rfl⟩) ⟨fun _ _ _ _ h => h, fun _ _ _ => ⟨rfl, trivial⟩⟩ rfl rfl hl.1 rfl (lv_room (Nat.le_of_ble_eq_true rfl)) dL_isAsked_53 ⟨(show 373 + i * 17 + 1 + 2 + 0 + 0 ≤ 810 by omega), (show 2254 + i * 102 + 6 + 12 + 0 + 0 ≤ 4900 by omega)⟩) hS (fun _ _ h => h.elim) (fun _ h => h.elim) (fun rv53 u9 t9 H locs ht hvm hw hB hz hk hS1 => ?_)
            have hP := hP.kept (fun k x hk9 => hk x.1 ((hP k x hk9).lt) (fun h => h))
            have hS := hS1
            obtain rfl := hw
            refine z_iadd hx hb dL_isAsked_56 ?_
            refine lv_bipush (v := zI 10) hx hb dL_isAsked_57 (by decide +kernel) ?_
            refine lv_iload hx hb dL_isAsked_59 (lv_at hl 0 rfl) ?_
            refine lv_iload_n hx hb dL_isAsked_61 rfl (lv_at hl 3 rfl) ?_
            refine lv_iconst (v := zI 2) hx hb dL_isAsked_62 rfl ?_
            refine z_ishr hx hb dL_isAsked_63 ?_
            refine lv_bipush (v := zI 24) hx hb dL_isAsked_64 (by decide +kernel) ?_
            refine va_calli (va_runS (As := [.int (zI (shI v 2)), .int (zI (24))]) (rest := [.int (zI (rr)), .int (zI (10)), .int (zI (1 + ((shI v 4) % 2147483648 % (60 : Int)))), .int (zI ((i : Int))), .ref (a 0)]) ⟨hx, hb, hml, hown, hts⟩ (c_L_below l (shI v 2) (by omega) (24) (by omega) (by first | assumption | omega)) (va_cwS 2 hts gL_isAsked_L_below rfl rfl rfl (by decide +kernel) ⟨Nat.le_of_ble_eq_true rfl, Nat.le_of_ble_eq_true rfl⟩) ⟨fun _ _ _ _ h => h, fun _ _ _ => ⟨rfl, trivial⟩⟩ rfl rfl hl.1 rfl (lv_room (Nat.le_of_ble_eq_true rfl)) dL_isAsked_66 ⟨(show 373 + i * 17 + 1 + 2 + 0 + 0 + 0 ≤ 810 by omega), (show 2254 + i * 102 + 6 + 12 + 0 + 0 + 0 ≤ 4900 by omega)⟩) hS (fun _ _ h => h.elim) (fun _ h => h.elim) (fun rv66 u9 t9 H locs ht hvm hw hB hz hk hS1 => ?_)
            have hP := hP.kept (fun k x hk9 => hk x.1 ((hP k x hk9).lt) (fun h => h))
            have hS := hS1
            obtain rfl := hw
            refine lv_iconst (v := zI 0) hx hb dL_isAsked_69 rfl ?_
            refine vx_calli (vx_runV (As := [.int (zI ((i : Int))), .int (zI (1 + ((shI v 4) % 2147483648 % (60 : Int)))), .int (zI (10)), .int (zI (rr)), .int (zI ((shI v 2) % 2147483648 % (24 : Int))), .int (zI (0))]) (rest := []) ⟨hx, hb, hml, hown, hts⟩ (c_X7_would l hlT D cy a q σ H.size ((i : Int)) (by omega) (1 + ((shI v 4) % 2147483648 % (60 : Int))) (by omega) (10) (by omega) (rr) (by omega) ((shI v 2) % 2147483648 % (24 : Int)) (by omega) (0) (by omega) _ _ hO) (cwV 6 hts gL_isAsked_X7_would rfl rfl rfl (by decide +kernel) ⟨Nat.le_of_ble_eq_true rfl, Nat.le_of_ble_eq_true rfl⟩) ⟨Wd_blind, va_recv hK hP (ci := 9) (q0 := 0) rfl wg_S, fun U hU hW => ⟨rfl, by rw [hU], Wd_mk (wP_left hP) hE0 hS hU hW⟩⟩ rfl rfl hl.1 rfl (lv_room (Nat.le_of_ble_eq_true rfl)) dL_isAsked_70 ⟨(show 373 + i * 17 + 1 + 2 + 0 + 0 + 0 + 2 ≤ 810 by omega), (show 2254 + i * 102 + 6 + 12 + 0 + 0 + 0 + 12 ≤ 4900 by omega)⟩) hS (fun _ _ h => h.elim) (fun _ h => wF_mono hS.1 _ h) (fun _ _ h => h.elim) (fun E9 ce9 q9 u9 t9 H locs ht hvm hpx hE hz hk hS1 hce hcv hcl => ?_) (fun rv70 u9 t9 H locs ht hvm hw hB hz hk hS1 => ?_)
            · skip
              exact absurd hpx (by rw [Int.toNat_natCast]; omega)
            · skip
              have hP := hP.kept (fun k x hk9 => hk x.1 ((hP k x hk9).lt) (fun h => h))
              have hS := hS1
              obtain rfl := hw
              obtain ⟨tr, etr⟩ : ∃ z : Int × Int × Int, z = tryF σ i (1 + (shI v 4 % 2147483648 % 60)) 10 rr (shI v 2 % 2147483648 % 24) := ⟨_, rfl⟩
              rw [show (if (0 : Int) = 0 then (tryF σ (i : Int).toNat (1 + ((shI v 4) % 2147483648 % (60 : Int))) (10 : Int) rr ((shI v 2) % 2147483648 % (24 : Int))).1 else (tryF σ (i : Int).toNat (1 + ((shI v 4) % 2147483648 % (60 : Int))) (10 : Int) rr ((shI v 2) % 2147483648 % (24 : Int))).2.1) = tr.1 from (by rw [etr]; exact if_pos rfl)]
              refine lv_istore (lv' := [(7, .int (zI (tr.1))), (6, .int (zI (rr))), (5, .int (zI (σ (3 + i) 1))), (0, .ref (a 0)), (1, .int (zI (v))), (2, .long (dG q σ)), (4, .int (zI ((i : Int))))]) hx hb dL_isAsked_73 hl (by decide) rfl (fun ls hl => ?_)
              refine lv_aload_n hx hb dL_isAsked_75 rfl (lv_at hl 3 rfl) ?_
              refine lv_iload hx hb dL_isAsked_76 (lv_at hl 6 rfl) ?_
              refine lv_iconst (v := zI 1) hx hb dL_isAsked_78 rfl ?_
              refine lv_iload_n hx hb dL_isAsked_79 rfl (lv_at hl 4 rfl) ?_
              refine lv_iconst (v := zI 4) hx hb dL_isAsked_80 rfl ?_
              refine z_ishr hx hb dL_isAsked_81 ?_
              refine lv_bipush (v := zI 60) hx hb dL_isAsked_82 (by decide +kernel) ?_
              refine va_calli (va_runS (As := [.int (zI (shI v 4)), .int (zI (60))]) (rest := [.int (zI (1)), .int (zI ((i : Int))), .ref (a 0)]) ⟨hx, hb, hml, hown, hts⟩ (c_L_below l (shI v 4) (by omega) (60) (by omega) (by first | assumption | omega)) (va_cwS 2 hts gL_isAsked_L_below rfl rfl rfl (by decide +kernel) ⟨Nat.le_of_ble_eq_true rfl, Nat.le_of_ble_eq_true rfl⟩) ⟨fun _ _ _ _ h => h, fun _ _ _ => ⟨rfl, trivial⟩⟩ rfl rfl hl.1 rfl (lv_room (Nat.le_of_ble_eq_true rfl)) dL_isAsked_84 ⟨(show 373 + i * 17 + 1 + 2 + 0 + 0 + 0 + 2 + 0 ≤ 810 by omega), (show 2254 + i * 102 + 6 + 12 + 0 + 0 + 0 + 12 + 0 ≤ 4900 by omega)⟩) hS (fun _ _ h => h.elim) (fun _ h => h.elim) (fun rv84 u9 t9 H locs ht hvm hw hB hz hk hS1 => ?_)
              have hP := hP.kept (fun k x hk9 => hk x.1 ((hP k x hk9).lt) (fun h => h))
              have hS := hS1
              obtain rfl := hw
              refine z_iadd hx hb dL_isAsked_87 ?_
              refine lv_bipush (v := zI 10) hx hb dL_isAsked_88 (by decide +kernel) ?_
              refine lv_iload hx hb dL_isAsked_90 (lv_at hl 1 rfl) ?_
              refine lv_iload_n hx hb dL_isAsked_92 rfl (lv_at hl 4 rfl) ?_
              refine lv_iconst (v := zI 2) hx hb dL_isAsked_93 rfl ?_
              refine z_ishr hx hb dL_isAsked_94 ?_
              refine lv_bipush (v := zI 24) hx hb dL_isAsked_95 (by decide +kernel) ?_
              refine va_calli (va_runS (As := [.int (zI (shI v 2)), .int (zI (24))]) (rest := [.int (zI (rr)), .int (zI (10)), .int (zI (1 + ((shI v 4) % 2147483648 % (60 : Int)))), .int (zI ((i : Int))), .ref (a 0)]) ⟨hx, hb, hml, hown, hts⟩ (c_L_below l (shI v 2) (by omega) (24) (by omega) (by first | assumption | omega)) (va_cwS 2 hts gL_isAsked_L_below rfl rfl rfl (by decide +kernel) ⟨Nat.le_of_ble_eq_true rfl, Nat.le_of_ble_eq_true rfl⟩) ⟨fun _ _ _ _ h => h, fun _ _ _ => ⟨rfl, trivial⟩⟩ rfl rfl hl.1 rfl (lv_room (Nat.le_of_ble_eq_true rfl)) dL_isAsked_97 ⟨(show 373 + i * 17 + 1 + 2 + 0 + 0 + 0 + 2 + 0 + 0 ≤ 810 by omega), (show 2254 + i * 102 + 6 + 12 + 0 + 0 + 0 + 12 + 0 + 0 ≤ 4900 by omega)⟩) hS (fun _ _ h => h.elim) (fun _ h => h.elim) (fun rv97 u9 t9 H locs ht hvm hw hB hz hk hS1 => ?_)
              have hP := hP.kept (fun k x hk9 => hk x.1 ((hP k x hk9).lt) (fun h => h))
              have hS := hS1
              obtain rfl := hw
              refine lv_iconst (v := zI 1) hx hb dL_isAsked_100 rfl ?_
              refine vx_calli (vx_runV (As := [.int (zI ((i : Int))), .int (zI (1 + ((shI v 4) % 2147483648 % (60 : Int)))), .int (zI (10)), .int (zI (rr)), .int (zI ((shI v 2) % 2147483648 % (24 : Int))), .int (zI (1))]) (rest := []) ⟨hx, hb, hml, hown, hts⟩ (c_X7_would l hlT D cy a q σ H.size ((i : Int)) (by omega) (1 + ((shI v 4) % 2147483648 % (60 : Int))) (by omega) (10) (by omega) (rr) (by omega) ((shI v 2) % 2147483648 % (24 : Int)) (by omega) (1) (by omega) _ _ hO) (cwV 6 hts gL_isAsked_X7_would rfl rfl rfl (by decide +kernel) ⟨Nat.le_of_ble_eq_true rfl, Nat.le_of_ble_eq_true rfl⟩) ⟨Wd_blind, va_recv hK hP (ci := 9) (q0 := 0) rfl wg_S, fun U hU hW => ⟨rfl, by rw [hU], Wd_mk (wP_left hP) hE0 hS hU hW⟩⟩ rfl rfl hl.1 rfl (lv_room (Nat.le_of_ble_eq_true rfl)) dL_isAsked_101 ⟨(show 373 + i * 17 + 1 + 2 + 0 + 0 + 0 + 2 + 0 + 0 + 2 ≤ 810 by omega), (show 2254 + i * 102 + 6 + 12 + 0 + 0 + 0 + 12 + 0 + 0 + 12 ≤ 4900 by omega)⟩) hS (fun _ _ h => h.elim) (fun _ h => wF_mono hS.1 _ h) (fun _ _ h => h.elim) (fun E9 ce9 q9 u9 t9 H locs ht hvm hpx hE hz hk hS1 hce hcv hcl => ?_) (fun rv101 u9 t9 H locs ht hvm hw hB hz hk hS1 => ?_)
              · skip
                exact absurd hpx (by rw [Int.toNat_natCast]; omega)
              · skip
                have hP := hP.kept (fun k x hk9 => hk x.1 ((hP k x hk9).lt) (fun h => h))
                have hS := hS1
                obtain rfl := hw
                rw [show (if (1 : Int) = 0 then (tryF σ (i : Int).toNat (1 + ((shI v 4) % 2147483648 % (60 : Int))) (10 : Int) rr ((shI v 2) % 2147483648 % (24 : Int))).1 else (tryF σ (i : Int).toNat (1 + ((shI v 4) % 2147483648 % (60 : Int))) (10 : Int) rr ((shI v 2) % 2147483648 % (24 : Int))).2.1) = tr.2.1 from (by rw [etr]; exact if_neg (by decide))]
                have tn := tryF_n (σ := σ) (i := i) (load := (1 + (shI v 4 % 2147483648 % 60))) (fr := 10) (to := rr) (an := (shI v 2 % 2147483648 % 24)) oCi.2.2.2.2.1 (by omega) (by omega) (by omega)
                rw [← etr] at tn
                refine lv_istore (lv' := [(8, .int (zI (tr.2.1))), (7, .int (zI (tr.1))), (6, .int (zI (rr))), (5, .int (zI (σ (3 + i) 1))), (0, .ref (a 0)), (1, .int (zI (v))), (2, .long (dG q σ)), (4, .int (zI ((i : Int))))]) hx hb dL_isAsked_104 hl (by decide) rfl (fun ls hl => ?_)
                refine lv_iload hx hb dL_isAsked_106 (lv_at hl 1 rfl) ?_
                refine z_if_lt (tgt := 141) hx hb dL_isAsked_108 (by decide) (by omega) (fun cd108 => ?_) (fun cd108 => ?_)
                · skip
                  refine lv_iconst (v := zI 0) hx hb dL_isAsked_141 rfl ?_
                  refine W.widen (k := 810) (n := 4900) (by omega) (by omega) ?_
                  exact W.zret (v := zI (0)) (ty := .boolean) hx hb hr (by decide +kernel) (fun t9 ht hW => ⟨⟨_, (), rfl, (by exfalso; omega), Wd_mk (wP_left hP) hE0 hS ht hW⟩, hS.F ht⟩) hS.2.2 dL_isAsked_142
                · skip
                  refine lv_iload hx hb dL_isAsked_111 (lv_at hl 1 rfl) ?_
                  refine lv_iconst (v := zI 5) hx hb dL_isAsked_113 rfl ?_
                  refine z_icmp_gt (tgt := 141) hx hb dL_isAsked_114 (by decide) (by omega) (by omega) (fun cd114 => ?_) (fun cd114 => ?_)
                  · skip
                    refine lv_iconst (v := zI 0) hx hb dL_isAsked_141 rfl ?_
                    refine W.widen (k := 810) (n := 4900) (by omega) (by omega) ?_
                    exact W.zret (v := zI (0)) (ty := .boolean) hx hb hr (by decide +kernel) (fun t9 ht hW => ⟨⟨_, (), rfl, (by exfalso; omega), Wd_mk (wP_left hP) hE0 hS ht hW⟩, hS.F ht⟩) hS.2.2 dL_isAsked_142
                  · skip
                    refine lv_iload hx hb dL_isAsked_117 (lv_at hl 1 rfl) ?_
                    refine lv_iconst (v := zI 2) hx hb dL_isAsked_119 rfl ?_
                    refine z_icmp_le (tgt := 127) hx hb dL_isAsked_120 (by decide) (by omega) (by omega) (fun cd120 => ?_) (fun cd120 => ?_)
                    · skip
                      refine lv_iconst (v := zI 0) hx hb dL_isAsked_127 rfl ?_
                      refine lv_iload hx hb dL_isAsked_128 (lv_at hl 0 rfl) ?_
                      refine z_if_lt (tgt := 137) hx hb dL_isAsked_130 (by decide) (by omega) (fun cd130 => ?_) (fun cd130 => ?_)
                      · skip
                        refine lv_iconst (v := zI 0) hx hb dL_isAsked_137 rfl ?_
                        refine z_icmp_eq (tgt := 143) hx hb dL_isAsked_138 (by decide) (by decide) (by decide) (fun _ => ?_) (fun cd138 => absurd (by decide) cd138)
                        have cb1 := cpF_b oCi.2.2.2.2.1 rr (σ 1 5) (by omega) (by omega)
                        have cb2 := cpF_b oCi.2.2.2.2.1 10 (σ 1 5) (by omega) (by omega)
                        have cm1 := cpF_mono oCi.2.2.2.2.1 rr (σ 1 5) (by omega)
                        have bb1 := beR_b (σ (3 + i)) rr 13
                        have bb2 := beR_b (σ (3 + i)) 10 13
                        have bm1 := beR_mono oCi.2.2.2.2.1 rr (by omega) 13
                        refine lv_aload_n hx hb dL_isAsked_143 rfl (lv_at hl 4 rfl) ?_
                        refine lv_iload hx hb dL_isAsked_144 (lv_at hl 7 rfl) ?_
                        refine lv_iload hx hb dL_isAsked_146 (lv_at hl 2 rfl) ?_
                        refine vx_calli (vx_runV (As := [.int (zI ((i : Int))), .int (zI (rr))]) (rest := []) ⟨hx, hb, hml, hown, hts⟩ (c_X7_capacity l hlT D cy a q σ H.size ((i : Int)) (by omega) (rr) (by omega) _ _ hO) (cwV 2 hts gL_isAsked_X7_capacity rfl rfl rfl (by decide +kernel) ⟨Nat.le_of_ble_eq_true rfl, Nat.le_of_ble_eq_true rfl⟩) ⟨Wd_blind, va_recv hK hP (ci := 9) (q0 := 0) rfl wg_S, fun U hU hW => ⟨rfl, by rw [hU], Wd_mk (wP_left hP) hE0 hS hU hW⟩⟩ rfl rfl hl.1 rfl (lv_room (Nat.le_of_ble_eq_true rfl)) dL_isAsked_148 ⟨(show 373 + i * 17 + 1 + 2 + 0 + 0 + 0 + 2 + 0 + 0 + 2 + 2 ≤ 810 by omega), (show 2254 + i * 102 + 6 + 12 + 0 + 0 + 0 + 12 + 0 + 0 + 12 + 12 ≤ 4900 by omega)⟩) hS (fun _ _ h => h.elim) (fun _ h => wF_mono hS.1 _ h) (fun _ _ h => h.elim) (fun E9 ce9 q9 u9 t9 H locs ht hvm hpx hE hz hk hS1 hce hcv hcl => ?_) (fun rv148 u9 t9 H locs ht hvm hw hB hz hk hS1 => ?_)
                        · skip
                          exact absurd hpx (by rw [Int.toNat_natCast]; omega)
                        · skip
                          have hP := hP.kept (fun k x hk9 => hk x.1 ((hP k x hk9).lt) (fun h => h))
                          have hS := hS1
                          obtain rfl := hw
                          rw [show cpF (σ (3 + (i : Int).toNat)) rr (σ 1 5) = cpF (σ (3 + i)) rr (σ 1 5) from rfl]
                          refine lv_aload_n hx hb dL_isAsked_151 rfl (lv_at hl 4 rfl) ?_
                          refine lv_iload hx hb dL_isAsked_152 (lv_at hl 7 rfl) ?_
                          refine lv_bipush (v := zI 10) hx hb dL_isAsked_154 (by decide +kernel) ?_
                          refine vx_calli (vx_runV (As := [.int (zI ((i : Int))), .int (zI (10))]) (rest := [.int (zI (cpF (σ (3 + i)) rr (σ 1 5)))]) ⟨hx, hb, hml, hown, hts⟩ (c_X7_capacity l hlT D cy a q σ H.size ((i : Int)) (by omega) (10) (by omega) _ _ hO) (cwV 2 hts gL_isAsked_X7_capacity rfl rfl rfl (by decide +kernel) ⟨Nat.le_of_ble_eq_true rfl, Nat.le_of_ble_eq_true rfl⟩) ⟨Wd_blind, va_recv hK hP (ci := 9) (q0 := 0) rfl wg_S, fun U hU hW => ⟨rfl, by rw [hU], Wd_mk (wP_left hP) hE0 hS hU hW⟩⟩ rfl rfl hl.1 rfl (lv_room (Nat.le_of_ble_eq_true rfl)) dL_isAsked_156 ⟨(show 373 + i * 17 + 1 + 2 + 0 + 0 + 0 + 2 + 0 + 0 + 2 + 2 + 2 ≤ 810 by omega), (show 2254 + i * 102 + 6 + 12 + 0 + 0 + 0 + 12 + 0 + 0 + 12 + 12 + 12 ≤ 4900 by omega)⟩) hS (fun _ _ h => h.elim) (fun _ h => wF_mono hS.1 _ h) (fun _ _ h => h.elim) (fun E9 ce9 q9 u9 t9 H locs ht hvm hpx hE hz hk hS1 hce hcv hcl => ?_) (fun rv156 u9 t9 H locs ht hvm hw hB hz hk hS1 => ?_)
                          · skip
                            exact absurd hpx (by rw [Int.toNat_natCast]; omega)
                          · skip
                            have hP := hP.kept (fun k x hk9 => hk x.1 ((hP k x hk9).lt) (fun h => h))
                            have hS := hS1
                            obtain rfl := hw
                            rw [show cpF (σ (3 + (i : Int).toNat)) (10 : Int) (σ 1 5) = cpF (σ (3 + i)) 10 (σ 1 5) from rfl]
                            refine z_icmp_gt (tgt := 194) hx hb dL_isAsked_159 (by decide) (by omega) (by omega) (fun cd159 => ?_) (fun cd159 => ?_)
                            · skip
                              refine lv_iconst (v := zI 0) hx hb dL_isAsked_194 rfl ?_
                              refine W.widen (k := 810) (n := 4900) (by omega) (by omega) ?_
                              exact W.zret (v := zI (0)) (ty := .boolean) hx hb hr (by decide +kernel) (fun t9 ht hW => ⟨⟨_, (), rfl, (by exfalso; omega), Wd_mk (wP_left hP) hE0 hS ht hW⟩, hS.F ht⟩) hS.2.2 dL_isAsked_195
                            · skip
                              refine lv_aload_n hx hb dL_isAsked_162 rfl (lv_at hl 4 rfl) ?_
                              refine lv_iload hx hb dL_isAsked_163 (lv_at hl 7 rfl) ?_
                              refine lv_iload hx hb dL_isAsked_165 (lv_at hl 2 rfl) ?_
                              refine vx_calli (vx_runV (As := [.int (zI ((i : Int))), .int (zI (rr))]) (rest := []) ⟨hx, hb, hml, hown, hts⟩ (c_X7_bearable l hlT D cy a q σ H.size ((i : Int)) (by omega) (rr) (by omega) _ _ hO) (cwV 2 hts gL_isAsked_X7_bearable rfl rfl rfl (by decide +kernel) ⟨Nat.le_of_ble_eq_true rfl, Nat.le_of_ble_eq_true rfl⟩) ⟨Wd_blind, va_recv hK hP (ci := 9) (q0 := 0) rfl wg_S, fun U hU hW => ⟨rfl, by rw [hU], Wd_mk (wP_left hP) hE0 hS hU hW⟩⟩ rfl rfl hl.1 rfl (lv_room (Nat.le_of_ble_eq_true rfl)) dL_isAsked_167 ⟨(show 373 + i * 17 + 1 + 2 + 0 + 0 + 0 + 2 + 0 + 0 + 2 + 2 + 2 + 2 ≤ 810 by omega), (show 2254 + i * 102 + 6 + 12 + 0 + 0 + 0 + 12 + 0 + 0 + 12 + 12 + 12 + 12 ≤ 4900 by omega)⟩) hS (fun _ _ h => h.elim) (fun _ h => wF_mono hS.1 _ h) (fun _ _ h => h.elim) (fun E9 ce9 q9 u9 t9 H locs ht hvm hpx hE hz hk hS1 hce hcv hcl => ?_) (fun rv167 u9 t9 H locs ht hvm hw hB hz hk hS1 => ?_)
                              · skip
                                exact absurd hpx (by rw [Int.toNat_natCast]; omega)
                              · skip
                                have hP := hP.kept (fun k x hk9 => hk x.1 ((hP k x hk9).lt) (fun h => h))
                                have hS := hS1
                                obtain rfl := hw
                                rw [show beR (σ (3 + (i : Int).toNat)) rr 13 = beR (σ (3 + i)) rr 13 from rfl]
                                refine lv_aload_n hx hb dL_isAsked_170 rfl (lv_at hl 4 rfl) ?_
                                refine lv_iload hx hb dL_isAsked_171 (lv_at hl 7 rfl) ?_
                                refine lv_bipush (v := zI 10) hx hb dL_isAsked_173 (by decide +kernel) ?_
                                refine vx_calli (vx_runV (As := [.int (zI ((i : Int))), .int (zI (10))]) (rest := [.int (zI (beR (σ (3 + i)) rr 13))]) ⟨hx, hb, hml, hown, hts⟩ (c_X7_bearable l hlT D cy a q σ H.size ((i : Int)) (by omega) (10) (by omega) _ _ hO) (cwV 2 hts gL_isAsked_X7_bearable rfl rfl rfl (by decide +kernel) ⟨Nat.le_of_ble_eq_true rfl, Nat.le_of_ble_eq_true rfl⟩) ⟨Wd_blind, va_recv hK hP (ci := 9) (q0 := 0) rfl wg_S, fun U hU hW => ⟨rfl, by rw [hU], Wd_mk (wP_left hP) hE0 hS hU hW⟩⟩ rfl rfl hl.1 rfl (lv_room (Nat.le_of_ble_eq_true rfl)) dL_isAsked_175 ⟨(show 373 + i * 17 + 1 + 2 + 0 + 0 + 0 + 2 + 0 + 0 + 2 + 2 + 2 + 2 + 2 ≤ 810 by omega), (show 2254 + i * 102 + 6 + 12 + 0 + 0 + 0 + 12 + 0 + 0 + 12 + 12 + 12 + 12 + 12 ≤ 4900 by omega)⟩) hS (fun _ _ h => h.elim) (fun _ h => wF_mono hS.1 _ h) (fun _ _ h => h.elim) (fun E9 ce9 q9 u9 t9 H locs ht hvm hpx hE hz hk hS1 hce hcv hcl => ?_) (fun rv175 u9 t9 H locs ht hvm hw hB hz hk hS1 => ?_)
                                · skip
                                  exact absurd hpx (by rw [Int.toNat_natCast]; omega)
                                · skip
                                  have hP := hP.kept (fun k x hk9 => hk x.1 ((hP k x hk9).lt) (fun h => h))
                                  have hS := hS1
                                  obtain rfl := hw
                                  rw [show beR (σ (3 + (i : Int).toNat)) (10 : Int) 13 = beR (σ (3 + i)) 10 13 from rfl]
                                  refine z_icmp_gt (tgt := 194) hx hb dL_isAsked_178 (by decide) (by omega) (by omega) (fun cd178 => ?_) (fun cd178 => ?_)
                                  · skip
                                    refine lv_iconst (v := zI 0) hx hb dL_isAsked_194 rfl ?_
                                    refine W.widen (k := 810) (n := 4900) (by omega) (by omega) ?_
                                    exact W.zret (v := zI (0)) (ty := .boolean) hx hb hr (by decide +kernel) (fun t9 ht hW => ⟨⟨_, (), rfl, (by exfalso; omega), Wd_mk (wP_left hP) hE0 hS ht hW⟩, hS.F ht⟩) hS.2.2 dL_isAsked_195
                                  · skip
                                    refine lv_aload_n hx hb dL_isAsked_181 rfl (lv_at hl 4 rfl) ?_
                                    refine lv_iload hx hb dL_isAsked_182 (lv_at hl 7 rfl) ?_
                                    refine lv_iload hx hb dL_isAsked_184 (lv_at hl 2 rfl) ?_
                                    refine vx_calli (vx_runV (As := [.int (zI ((i : Int))), .int (zI (rr))]) (rest := []) ⟨hx, hb, hml, hown, hts⟩ (c_X7_bearable l hlT D cy a q σ H.size ((i : Int)) (by omega) (rr) (by omega) _ _ hO) (cwV 2 hts gL_isAsked_X7_bearable rfl rfl rfl (by decide +kernel) ⟨Nat.le_of_ble_eq_true rfl, Nat.le_of_ble_eq_true rfl⟩) ⟨Wd_blind, va_recv hK hP (ci := 9) (q0 := 0) rfl wg_S, fun U hU hW => ⟨rfl, by rw [hU], Wd_mk (wP_left hP) hE0 hS hU hW⟩⟩ rfl rfl hl.1 rfl (lv_room (Nat.le_of_ble_eq_true rfl)) dL_isAsked_186 ⟨(show 373 + i * 17 + 1 + 2 + 0 + 0 + 0 + 2 + 0 + 0 + 2 + 2 + 2 + 2 + 2 + 2 ≤ 810 by omega), (show 2254 + i * 102 + 6 + 12 + 0 + 0 + 0 + 12 + 0 + 0 + 12 + 12 + 12 + 12 + 12 + 12 ≤ 4900 by omega)⟩) hS (fun _ _ h => h.elim) (fun _ h => wF_mono hS.1 _ h) (fun _ _ h => h.elim) (fun E9 ce9 q9 u9 t9 H locs ht hvm hpx hE hz hk hS1 hce hcv hcl => ?_) (fun rv186 u9 t9 H locs ht hvm hw hB hz hk hS1 => ?_)
                                    · skip
                                      exact absurd hpx (by rw [Int.toNat_natCast]; omega)
                                    · skip
                                      have hP := hP.kept (fun k x hk9 => hk x.1 ((hP k x hk9).lt) (fun h => h))
                                      have hS := hS1
                                      obtain rfl := hw
                                      rw [show beR (σ (3 + (i : Int).toNat)) rr 13 = beR (σ (3 + i)) rr 13 from rfl]
                                      refine lv_bipush (v := zI 12) hx hb dL_isAsked_189 (by decide +kernel) ?_
                                      refine z_icmp_le (tgt := 196) hx hb dL_isAsked_191 (by decide) (by omega) (by omega) (fun cd191 => ?_) (fun cd191 => ?_)
                                      · skip
                                        refine lv_iinc (v := zI ((i : Int) + 1)) (lv' := [(4, .int (zI ((i : Int) + 1))), (8, .int (zI (tr.2.1))), (7, .int (zI (tr.1))), (6, .int (zI (rr))), (5, .int (zI (σ (3 + i) 1))), (0, .ref (a 0)), (1, .int (zI (v))), (2, .long (dG q σ))]) hx hb dL_isAsked_196 hl (k := 7) rfl (zI_add _ _) (by decide) rfl (fun ls hl => ?_)
                                        refine lv_goto (tgt := 8) hx hb dL_isAsked_199 (by decide) ?_
                                        refine W.widen (k := 373 + (i + 1) * 17) (n := 2254 + (i + 1) * 102) (by omega) (by omega) ?_
                                        exact ih8 (i + 1) H locs ls (by omega) (by omega)  hP hD hS (by have h9 := lv_sub hl [5, 6, 7, 0] rfl; exact h9)
                                      · skip
                                        refine lv_iconst (v := zI 0) hx hb dL_isAsked_194 rfl ?_
                                        refine W.widen (k := 810) (n := 4900) (by omega) (by omega) ?_
                                        exact W.zret (v := zI (0)) (ty := .boolean) hx hb hr (by decide +kernel) (fun t9 ht hW => ⟨⟨_, (), rfl, (by exfalso; omega), Wd_mk (wP_left hP) hE0 hS ht hW⟩, hS.F ht⟩) hS.2.2 dL_isAsked_195
                      · skip
                        refine lv_iconst (v := zI 1) hx hb dL_isAsked_133 rfl ?_
                        refine lv_goto (tgt := 138) hx hb dL_isAsked_134 (by decide) ?_
                        refine z_icmp_eq (tgt := 143) hx hb dL_isAsked_138 (by decide) (by decide) (by decide) (fun cd138 => absurd cd138 (by decide)) (fun _ => ?_)
                        refine lv_iconst (v := zI 0) hx hb dL_isAsked_141 rfl ?_
                        refine W.widen (k := 810) (n := 4900) (by omega) (by omega) ?_
                        exact W.zret (v := zI (0)) (ty := .boolean) hx hb hr (by decide +kernel) (fun t9 ht hW => ⟨⟨_, (), rfl, (by exfalso; omega), Wd_mk (wP_left hP) hE0 hS ht hW⟩, hS.F ht⟩) hS.2.2 dL_isAsked_142
                    · skip
                      refine lv_iconst (v := zI 1) hx hb dL_isAsked_123 rfl ?_
                      refine lv_goto (tgt := 128) hx hb dL_isAsked_124 (by decide) ?_
                      refine lv_iload hx hb dL_isAsked_128 (lv_at hl 0 rfl) ?_
                      refine z_if_lt (tgt := 137) hx hb dL_isAsked_130 (by decide) (by omega) (fun cd130 => ?_) (fun cd130 => ?_)
                      · skip
                        refine lv_iconst (v := zI 0) hx hb dL_isAsked_137 rfl ?_
                        refine z_icmp_eq (tgt := 143) hx hb dL_isAsked_138 (by decide) (by decide) (by decide) (fun cd138 => absurd cd138 (by decide)) (fun _ => ?_)
                        refine lv_iconst (v := zI 0) hx hb dL_isAsked_141 rfl ?_
                        refine W.widen (k := 810) (n := 4900) (by omega) (by omega) ?_
                        exact W.zret (v := zI (0)) (ty := .boolean) hx hb hr (by decide +kernel) (fun t9 ht hW => ⟨⟨_, (), rfl, (by exfalso; omega), Wd_mk (wP_left hP) hE0 hS ht hW⟩, hS.F ht⟩) hS.2.2 dL_isAsked_142
                      · skip
                        refine lv_iconst (v := zI 1) hx hb dL_isAsked_133 rfl ?_
                        refine lv_goto (tgt := 138) hx hb dL_isAsked_134 (by decide) ?_
                        refine z_icmp_eq (tgt := 143) hx hb dL_isAsked_138 (by decide) (by decide) (by decide) (fun _ => ?_) (fun cd138 => absurd (by decide) cd138)
                        have cb1 := cpF_b oCi.2.2.2.2.1 rr (σ 1 5) (by omega) (by omega)
                        have cb2 := cpF_b oCi.2.2.2.2.1 10 (σ 1 5) (by omega) (by omega)
                        have cm1 := cpF_mono oCi.2.2.2.2.1 rr (σ 1 5) (by omega)
                        have bb1 := beR_b (σ (3 + i)) rr 13
                        have bb2 := beR_b (σ (3 + i)) 10 13
                        have bm1 := beR_mono oCi.2.2.2.2.1 rr (by omega) 13
                        refine lv_aload_n hx hb dL_isAsked_143 rfl (lv_at hl 4 rfl) ?_
                        refine lv_iload hx hb dL_isAsked_144 (lv_at hl 7 rfl) ?_
                        refine lv_iload hx hb dL_isAsked_146 (lv_at hl 2 rfl) ?_
                        refine vx_calli (vx_runV (As := [.int (zI ((i : Int))), .int (zI (rr))]) (rest := []) ⟨hx, hb, hml, hown, hts⟩ (c_X7_capacity l hlT D cy a q σ H.size ((i : Int)) (by omega) (rr) (by omega) _ _ hO) (cwV 2 hts gL_isAsked_X7_capacity rfl rfl rfl (by decide +kernel) ⟨Nat.le_of_ble_eq_true rfl, Nat.le_of_ble_eq_true rfl⟩) ⟨Wd_blind, va_recv hK hP (ci := 9) (q0 := 0) rfl wg_S, fun U hU hW => ⟨rfl, by rw [hU], Wd_mk (wP_left hP) hE0 hS hU hW⟩⟩ rfl rfl hl.1 rfl (lv_room (Nat.le_of_ble_eq_true rfl)) dL_isAsked_148 ⟨(show 373 + i * 17 + 1 + 2 + 0 + 0 + 0 + 2 + 0 + 0 + 2 + 2 ≤ 810 by omega), (show 2254 + i * 102 + 6 + 12 + 0 + 0 + 0 + 12 + 0 + 0 + 12 + 12 ≤ 4900 by omega)⟩) hS (fun _ _ h => h.elim) (fun _ h => wF_mono hS.1 _ h) (fun _ _ h => h.elim) (fun E9 ce9 q9 u9 t9 H locs ht hvm hpx hE hz hk hS1 hce hcv hcl => ?_) (fun rv148 u9 t9 H locs ht hvm hw hB hz hk hS1 => ?_)
                        · skip
                          exact absurd hpx (by rw [Int.toNat_natCast]; omega)
                        · skip
                          have hP := hP.kept (fun k x hk9 => hk x.1 ((hP k x hk9).lt) (fun h => h))
                          have hS := hS1
                          obtain rfl := hw
                          rw [show cpF (σ (3 + (i : Int).toNat)) rr (σ 1 5) = cpF (σ (3 + i)) rr (σ 1 5) from rfl]
                          refine lv_aload_n hx hb dL_isAsked_151 rfl (lv_at hl 4 rfl) ?_
                          refine lv_iload hx hb dL_isAsked_152 (lv_at hl 7 rfl) ?_
                          refine lv_bipush (v := zI 10) hx hb dL_isAsked_154 (by decide +kernel) ?_
                          refine vx_calli (vx_runV (As := [.int (zI ((i : Int))), .int (zI (10))]) (rest := [.int (zI (cpF (σ (3 + i)) rr (σ 1 5)))]) ⟨hx, hb, hml, hown, hts⟩ (c_X7_capacity l hlT D cy a q σ H.size ((i : Int)) (by omega) (10) (by omega) _ _ hO) (cwV 2 hts gL_isAsked_X7_capacity rfl rfl rfl (by decide +kernel) ⟨Nat.le_of_ble_eq_true rfl, Nat.le_of_ble_eq_true rfl⟩) ⟨Wd_blind, va_recv hK hP (ci := 9) (q0 := 0) rfl wg_S, fun U hU hW => ⟨rfl, by rw [hU], Wd_mk (wP_left hP) hE0 hS hU hW⟩⟩ rfl rfl hl.1 rfl (lv_room (Nat.le_of_ble_eq_true rfl)) dL_isAsked_156 ⟨(show 373 + i * 17 + 1 + 2 + 0 + 0 + 0 + 2 + 0 + 0 + 2 + 2 + 2 ≤ 810 by omega), (show 2254 + i * 102 + 6 + 12 + 0 + 0 + 0 + 12 + 0 + 0 + 12 + 12 + 12 ≤ 4900 by omega)⟩) hS (fun _ _ h => h.elim) (fun _ h => wF_mono hS.1 _ h) (fun _ _ h => h.elim) (fun E9 ce9 q9 u9 t9 H locs ht hvm hpx hE hz hk hS1 hce hcv hcl => ?_) (fun rv156 u9 t9 H locs ht hvm hw hB hz hk hS1 => ?_)
                          · skip
                            exact absurd hpx (by rw [Int.toNat_natCast]; omega)
                          · skip
                            have hP := hP.kept (fun k x hk9 => hk x.1 ((hP k x hk9).lt) (fun h => h))
                            have hS := hS1
                            obtain rfl := hw
                            rw [show cpF (σ (3 + (i : Int).toNat)) (10 : Int) (σ 1 5) = cpF (σ (3 + i)) 10 (σ 1 5) from rfl]
                            refine z_icmp_gt (tgt := 194) hx hb dL_isAsked_159 (by decide) (by omega) (by omega) (fun cd159 => ?_) (fun cd159 => ?_)
                            · skip
                              refine lv_iconst (v := zI 0) hx hb dL_isAsked_194 rfl ?_
                              refine W.widen (k := 810) (n := 4900) (by omega) (by omega) ?_
                              exact W.zret (v := zI (0)) (ty := .boolean) hx hb hr (by decide +kernel) (fun t9 ht hW => ⟨⟨_, (), rfl, (by exfalso; omega), Wd_mk (wP_left hP) hE0 hS ht hW⟩, hS.F ht⟩) hS.2.2 dL_isAsked_195
                            · skip
                              refine lv_aload_n hx hb dL_isAsked_162 rfl (lv_at hl 4 rfl) ?_
                              refine lv_iload hx hb dL_isAsked_163 (lv_at hl 7 rfl) ?_
                              refine lv_iload hx hb dL_isAsked_165 (lv_at hl 2 rfl) ?_
                              refine vx_calli (vx_runV (As := [.int (zI ((i : Int))), .int (zI (rr))]) (rest := []) ⟨hx, hb, hml, hown, hts⟩ (c_X7_bearable l hlT D cy a q σ H.size ((i : Int)) (by omega) (rr) (by omega) _ _ hO) (cwV 2 hts gL_isAsked_X7_bearable rfl rfl rfl (by decide +kernel) ⟨Nat.le_of_ble_eq_true rfl, Nat.le_of_ble_eq_true rfl⟩) ⟨Wd_blind, va_recv hK hP (ci := 9) (q0 := 0) rfl wg_S, fun U hU hW => ⟨rfl, by rw [hU], Wd_mk (wP_left hP) hE0 hS hU hW⟩⟩ rfl rfl hl.1 rfl (lv_room (Nat.le_of_ble_eq_true rfl)) dL_isAsked_167 ⟨(show 373 + i * 17 + 1 + 2 + 0 + 0 + 0 + 2 + 0 + 0 + 2 + 2 + 2 + 2 ≤ 810 by omega), (show 2254 + i * 102 + 6 + 12 + 0 + 0 + 0 + 12 + 0 + 0 + 12 + 12 + 12 + 12 ≤ 4900 by omega)⟩) hS (fun _ _ h => h.elim) (fun _ h => wF_mono hS.1 _ h) (fun _ _ h => h.elim) (fun E9 ce9 q9 u9 t9 H locs ht hvm hpx hE hz hk hS1 hce hcv hcl => ?_) (fun rv167 u9 t9 H locs ht hvm hw hB hz hk hS1 => ?_)
                              · skip
                                exact absurd hpx (by rw [Int.toNat_natCast]; omega)
                              · skip
                                have hP := hP.kept (fun k x hk9 => hk x.1 ((hP k x hk9).lt) (fun h => h))
                                have hS := hS1
                                obtain rfl := hw
                                rw [show beR (σ (3 + (i : Int).toNat)) rr 13 = beR (σ (3 + i)) rr 13 from rfl]
                                refine lv_aload_n hx hb dL_isAsked_170 rfl (lv_at hl 4 rfl) ?_
                                refine lv_iload hx hb dL_isAsked_171 (lv_at hl 7 rfl) ?_
                                refine lv_bipush (v := zI 10) hx hb dL_isAsked_173 (by decide +kernel) ?_
                                refine vx_calli (vx_runV (As := [.int (zI ((i : Int))), .int (zI (10))]) (rest := [.int (zI (beR (σ (3 + i)) rr 13))]) ⟨hx, hb, hml, hown, hts⟩ (c_X7_bearable l hlT D cy a q σ H.size ((i : Int)) (by omega) (10) (by omega) _ _ hO) (cwV 2 hts gL_isAsked_X7_bearable rfl rfl rfl (by decide +kernel) ⟨Nat.le_of_ble_eq_true rfl, Nat.le_of_ble_eq_true rfl⟩) ⟨Wd_blind, va_recv hK hP (ci := 9) (q0 := 0) rfl wg_S, fun U hU hW => ⟨rfl, by rw [hU], Wd_mk (wP_left hP) hE0 hS hU hW⟩⟩ rfl rfl hl.1 rfl (lv_room (Nat.le_of_ble_eq_true rfl)) dL_isAsked_175 ⟨(show 373 + i * 17 + 1 + 2 + 0 + 0 + 0 + 2 + 0 + 0 + 2 + 2 + 2 + 2 + 2 ≤ 810 by omega), (show 2254 + i * 102 + 6 + 12 + 0 + 0 + 0 + 12 + 0 + 0 + 12 + 12 + 12 + 12 + 12 ≤ 4900 by omega)⟩) hS (fun _ _ h => h.elim) (fun _ h => wF_mono hS.1 _ h) (fun _ _ h => h.elim) (fun E9 ce9 q9 u9 t9 H locs ht hvm hpx hE hz hk hS1 hce hcv hcl => ?_) (fun rv175 u9 t9 H locs ht hvm hw hB hz hk hS1 => ?_)
                                · skip
                                  exact absurd hpx (by rw [Int.toNat_natCast]; omega)
                                · skip
                                  have hP := hP.kept (fun k x hk9 => hk x.1 ((hP k x hk9).lt) (fun h => h))
                                  have hS := hS1
                                  obtain rfl := hw
                                  rw [show beR (σ (3 + (i : Int).toNat)) (10 : Int) 13 = beR (σ (3 + i)) 10 13 from rfl]
                                  refine z_icmp_gt (tgt := 194) hx hb dL_isAsked_178 (by decide) (by omega) (by omega) (fun cd178 => ?_) (fun cd178 => ?_)
                                  · skip
                                    refine lv_iconst (v := zI 0) hx hb dL_isAsked_194 rfl ?_
                                    refine W.widen (k := 810) (n := 4900) (by omega) (by omega) ?_
                                    exact W.zret (v := zI (0)) (ty := .boolean) hx hb hr (by decide +kernel) (fun t9 ht hW => ⟨⟨_, (), rfl, (by exfalso; omega), Wd_mk (wP_left hP) hE0 hS ht hW⟩, hS.F ht⟩) hS.2.2 dL_isAsked_195
                                  · skip
                                    refine lv_aload_n hx hb dL_isAsked_181 rfl (lv_at hl 4 rfl) ?_
                                    refine lv_iload hx hb dL_isAsked_182 (lv_at hl 7 rfl) ?_
                                    refine lv_iload hx hb dL_isAsked_184 (lv_at hl 2 rfl) ?_
                                    refine vx_calli (vx_runV (As := [.int (zI ((i : Int))), .int (zI (rr))]) (rest := []) ⟨hx, hb, hml, hown, hts⟩ (c_X7_bearable l hlT D cy a q σ H.size ((i : Int)) (by omega) (rr) (by omega) _ _ hO) (cwV 2 hts gL_isAsked_X7_bearable rfl rfl rfl (by decide +kernel) ⟨Nat.le_of_ble_eq_true rfl, Nat.le_of_ble_eq_true rfl⟩) ⟨Wd_blind, va_recv hK hP (ci := 9) (q0 := 0) rfl wg_S, fun U hU hW => ⟨rfl, by rw [hU], Wd_mk (wP_left hP) hE0 hS hU hW⟩⟩ rfl rfl hl.1 rfl (lv_room (Nat.le_of_ble_eq_true rfl)) dL_isAsked_186 ⟨(show 373 + i * 17 + 1 + 2 + 0 + 0 + 0 + 2 + 0 + 0 + 2 + 2 + 2 + 2 + 2 + 2 ≤ 810 by omega), (show 2254 + i * 102 + 6 + 12 + 0 + 0 + 0 + 12 + 0 + 0 + 12 + 12 + 12 + 12 + 12 + 12 ≤ 4900 by omega)⟩) hS (fun _ _ h => h.elim) (fun _ h => wF_mono hS.1 _ h) (fun _ _ h => h.elim) (fun E9 ce9 q9 u9 t9 H locs ht hvm hpx hE hz hk hS1 hce hcv hcl => ?_) (fun rv186 u9 t9 H locs ht hvm hw hB hz hk hS1 => ?_)
                                    · skip
                                      exact absurd hpx (by rw [Int.toNat_natCast]; omega)
                                    · skip
                                      have hP := hP.kept (fun k x hk9 => hk x.1 ((hP k x hk9).lt) (fun h => h))
                                      have hS := hS1
                                      obtain rfl := hw
                                      rw [show beR (σ (3 + (i : Int).toNat)) rr 13 = beR (σ (3 + i)) rr 13 from rfl]
                                      refine lv_bipush (v := zI 12) hx hb dL_isAsked_189 (by decide +kernel) ?_
                                      refine z_icmp_le (tgt := 196) hx hb dL_isAsked_191 (by decide) (by omega) (by omega) (fun cd191 => ?_) (fun cd191 => ?_)
                                      · skip
                                        refine lv_iinc (v := zI ((i : Int) + 1)) (lv' := [(4, .int (zI ((i : Int) + 1))), (8, .int (zI (tr.2.1))), (7, .int (zI (tr.1))), (6, .int (zI (rr))), (5, .int (zI (σ (3 + i) 1))), (0, .ref (a 0)), (1, .int (zI (v))), (2, .long (dG q σ))]) hx hb dL_isAsked_196 hl (k := 7) rfl (zI_add _ _) (by decide) rfl (fun ls hl => ?_)
                                        refine lv_goto (tgt := 8) hx hb dL_isAsked_199 (by decide) ?_
                                        refine W.widen (k := 373 + (i + 1) * 17) (n := 2254 + (i + 1) * 102) (by omega) (by omega) ?_
                                        exact ih8 (i + 1) H locs ls (by omega) (by omega)  hP hD hS (by have h9 := lv_sub hl [5, 6, 7, 0] rfl; exact h9)
                                      · skip
                                        refine lv_iconst (v := zI 0) hx hb dL_isAsked_194 rfl ?_
                                        refine W.widen (k := 810) (n := 4900) (by omega) (by omega) ?_
                                        exact W.zret (v := zI (0)) (ty := .boolean) hx hb hr (by decide +kernel) (fun t9 ht hW => ⟨⟨_, (), rfl, (by exfalso; omega), Wd_mk (wP_left hP) hE0 hS ht hW⟩, hS.F ht⟩) hS.2.2 dL_isAsked_195
  refine W.widen (k := 373 + 0 * 17) (n := 2254 + 0 * 102) (by omega) (by omega) ?_
  exact loop8 (4) 0 H locs ls (by omega) (by omega)  hP hD hS (lv_sub hl [2, 3, 1, 0] rfl)
