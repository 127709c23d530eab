/-! THE DIGEST as a function of the site -/
noncomputable def dS (q : Nat → Nat) (σ : Nat → Nat → Int) : Nat → Int64
  | 0 => 8923
  | k + 1 => dS q σ k * 31 + (zI (siF q σ k)).toInt64
noncomputable def dO (σ : Nat → Nat → Int) (i : Nat) (d : Int64) : Nat → Int64
  | 0 => d
  | k + 1 => dO σ i d k * 31 + (zI (ofF σ i k)).toInt64
noncomputable def dC (q : Nat → Nat) (σ : Nat → Nat → Int) : Nat → Int64
  | 0 => dS q σ 17
  | i + 1 => (dO σ i (dC q σ i) 10 * 31 + (zI (cpF (σ (3 + i)) (σ (3 + i) 1) (σ 1 5))).toInt64) * 31 + (zI (beR (σ (3 + i)) (σ (3 + i) 1) 13)).toInt64
noncomputable def dP (q : Nat → Nat) (σ : Nat → Nat → Int) (i : Nat) (d : Int64) : Nat → Int64
  | 0 => d
  | k + 1 => dP q σ i d k * 31 + (zI (σ (22 + q i) k)).toInt64
noncomputable def dL (q : Nat → Nat) (σ : Nat → Nat → Int) : Nat → Int64
  | 0 => dC q σ (σ 0 5).toNat
  | i + 1 => dP q σ i (dL q σ i) 7
noncomputable def dG (q : Nat → Nat) (σ : Nat → Nat → Int) : Int64 := (dL q σ (σ 20 1).toNat * 31 + (zI (jL σ (σ 0 5).toNat)).toInt64) * 31 + (zI 1).toInt64
theorem WdJ_blind {D : va_G} {J : jT} {A : Nat → Prop} {cy : Nat → ClassId} {a q : Nat → Nat} {σ : Nat → Nat → Int} {av : List Value} {sz : Nat} : FrameBlind (va_Pc av (fun U => U.heap.size = sz ∧ Wd D cy a q σ U ∧ jZ J D A U)) := fun v U g mk h => by
  obtain ⟨h1, h2, h3, h4⟩ := h
  obtain ⟨e1, e2, e3⟩ := Wd_blind (av := av) (sz := sz) v U g mk ⟨h1, h2, h3⟩
  exact ⟨e1, e2, e3, h4.calling g mk v⟩
set_option maxHeartbeats 4000000 in
set_option maxRecDepth 100000 in
/-- X7_digest -/
theorem c_X7_digest (l : Launch) (D : va_G) (cy : Nat → ClassId) (a q : Nat → Nat) (σ : Nat → Nat → Int) (sz : Nat) (J : jT) (hlT : l.stackTraces = false) (t0 : Int) (hO : okA t0 (σ 1 5) q σ) : Met l yX7_digest wsX7_digest ({ frames := 14, cells := 373, slots := 2254, locals := 800 }) (va_Pc [.ref (a 0)] (fun U => U.heap.size = sz ∧ Wd D cy a q σ U ∧ jZ J D (wF a sz) U)) (va_Ql (fun (r : Int64) (_ : Unit) => r = dG q σ) (fun _ t => Wd D cy a q σ t) (wF a sz)) 373 2254 (wF a sz) := by
  refine Met.ofW (cc := cX7_digest) (maxL := 5) (ret := (some .long)) (by decide) rfl ?_
  intro p e s m args below meth c s₁ B hml hpc0
  obtain ⟨rfl, hsz, hW0, hZ⟩ := hpc0
  have hx := B.exec
  have hb := B.bytes
  have hr := B.returns
  have hts := atoms_spec (ws := wsX7_digest) B.pre
  have hown : s.vm.findClass RX7 = some m.cls := findClass_of_methodNamed B.named
  have hlocks := B.notSynchronized
  subst hsz
  obtain ⟨hP00, hE0⟩ := id hW0
  obtain ⟨hK, hinj, hU0, hN0, hstr, hnest⟩ := id hE0
  have hP : va_P D vwCl (wld cy a q σ ++ []) s.heap := by rw [List.append_nil]; exact hP00
  have hD : va_D (wF a s.heap.size) (wld cy a q σ ++ []) := wD_of hinj
  have hA : ∀ x : Nat, s.heap.size ≤ x → wF a s.heap.size x := fun _ h => Or.inr h
  have hS : va_S (wF a s.heap.size) s.heap s.heap [] := va_S.rf
  have hk0 : ∀ x : Nat, x < s.heap.size → s.heap[x]? = s.heap[x]? := fun _ _ => rfl
  have hl := lv_entry ([.ref (a 0)]) (n := 5) (Nat.le_of_ble_eq_true rfl)
  rw [lg_entry_eq]
  generalize (lg_sl ([.ref (a 0)]) ++ List.replicate (5 - (lg_sl ([.ref (a 0)])).length) Slot.unset).toArray = ls at hl ⊢
  have hl : lv_has ls 5 [(0, .ref (a 0))] := hl
  have k18 := hts (.fieldLink RX7 18 "Slewfree" "cranes" "[LSlewfree$Crane;") (by decide +kernel)
  have k42 := hts (.fieldLink RX7 42 "Slewfree" "log" "LSlewfree$Log;") (by decide +kernel)
  have k57 := hts (.fieldLink RX7 57 "Slewfree" "craneCount" "I") (by decide +kernel)
  have k66 := hts (.fieldLink RX7 66 "Slewfree$Crane" "reach" "I") (by decide +kernel)
  have k283 := hts (.fieldLink RX7 283 "Slewfree$Log" "count" "I") (by decide +kernel)
  have inX0 : ∀ w ∈ u_ws RX0 TX0 12, w ∈ wsX7_digest := by decide +kernel
  have inX1 : ∀ w ∈ u_ws RX1 TX1 4, w ∈ wsX7_digest := by decide +kernel
  have inX7 : ∀ w ∈ u_ws RX7 TX7 9, w ∈ wsX7_digest := by decide +kernel
  obtain ⟨oS, oW, oC, oZ, oM, oL, oP, oQ, oH⟩ := id hO
  unfold okS at oS; unfold okW at oW; unfold okL at oL
  refine lv_ldc2 (v := 8923) hx hb hown (hts (.constantLong RX7 323 (8923)) (by decide +kernel)) dX7_digest_0 ?_
  refine lv_lstore_n (lv' := [(1, .long (8923)), (0, .ref (a 0))]) hx hb dX7_digest_3 rfl hl (by decide) rfl (fun ls hl => ?_)
  refine lv_iconst (v := zI 0) hx hb dX7_digest_4 rfl ?_
  refine lv_istore_n (lv' := [(3, .int (zI (0))), (1, .long (8923)), (0, .ref (a 0))]) hx hb dX7_digest_5 rfl hl (by decide) rfl (fun ls hl => ?_)
  have loop6 : ∀ (n : Nat) (k : Nat) (dd1 : Int64) (H : Heap) (locs : List Loc) (ls : Array Slot), 17 - k < n → (k ≤ 17) → (dd1 = dS q σ k) → va_P D vwCl (wld cy a q σ ++ []) H → va_S (wF a s.heap.size) s.heap H locs → (∀ x : Nat, x < s.heap.size → H[x]? = s.heap[x]?) → lv_has ls 5 [(0, .ref (a 0)), (1, .long (dd1)), (3, .int (zI ((k : Int))))] → W p l e (headSpec wsX7_digest ({ frames := 14, cells := 373, slots := 2254, locals := 800 })).room s m ([.ref (a 0)] : List Value).toArray below meth c H locs (k * 1) (k * 6) (MQ below (va_Ql (fun (r : Int64) (_ : Unit) => r = dG q σ) (fun _ t => Wd D cy a q σ t) (wF a s.heap.size)) ([.ref (a 0)] : List Value).toArray s 373 2254 (wF a s.heap.size)) (F0 m 6 ls []) := by
    intro n
    induction n with
    | zero => intro k dd1 H locs ls h0; exact absurd h0 (Nat.not_lt_zero _)
    | succ n ih6 =>
      intro k dd1 H locs ls hms hk1 hd1 hP hS hk0 hl
      refine lv_iload_n hx hb dX7_digest_6 rfl (lv_at hl 2 rfl) ?_
      refine lv_bipush (v := zI 16) hx hb dX7_digest_7 (by decide +kernel) ?_
      refine z_icmp_gt (tgt := 31) hx hb dX7_digest_9 (by decide) (by omega) (by omega) (fun cd9 => ?_) (fun cd9 => ?_)
      · skip
        refine lv_iconst (v := zI 0) hx hb dX7_digest_31 rfl ?_
        refine lv_istore_n (lv' := [(3, .int (zI (0))), (0, .ref (a 0)), (1, .long (dd1))]) hx hb dX7_digest_32 rfl hl (by decide) rfl (fun ls hl => ?_)
        have loop33 : ∀ (n : Nat) (i : Nat) (dd2 : Int64) (H : Heap) (locs : List Loc) (ls : Array Slot), 3 - i < n → ((i : Int) ≤ σ 0 5) → (dd2 = dC q σ i) → va_P D vwCl (wld cy a q σ ++ []) H → va_S (wF a s.heap.size) s.heap H locs → (∀ x : Nat, x < s.heap.size → H[x]? = s.heap[x]?) → lv_has ls 5 [(0, .ref (a 0)), (1, .long (dd2)), (3, .int (zI ((i : Int))))] → W p l e (headSpec wsX7_digest ({ frames := 14, cells := 373, slots := 2254, locals := 800 })).room s m ([.ref (a 0)] : List Value).toArray below meth c H locs (17 + i * 24) (102 + i * 144) (MQ below (va_Ql (fun (r : Int64) (_ : Unit) => r = dG q σ) (fun _ t => Wd D cy a q σ t) (wF a s.heap.size)) ([.ref (a 0)] : List Value).toArray s 373 2254 (wF a s.heap.size)) (F0 m 33 ls []) := by
          intro n
          induction n with
          | zero => intro i dd2 H locs ls h0; exact absurd h0 (Nat.not_lt_zero _)
          | succ n ih33 =>
            intro i dd2 H locs ls hms hi2 hd2 hP hS hk0 hl
            refine lv_iload_n hx hb dX7_digest_33 rfl (lv_at hl 2 rfl) ?_
            refine lv_aload_n hx hb dX7_digest_34 rfl (lv_at hl 0 rfl) ?_
            refine va_get (D := D) (ci := 9) (v := .int (zI (σ 0 5))) (C := RX7) (T := TX7) (N := 9) hx hb hts inX7 hown hK hP 0 wg_S rfl 5 (by decide) k57 (fun _ h9 => h9) rfl dX7_digest_35 ?_
            refine z_icmp_ge (tgt := 122) hx hb dX7_digest_38 (by decide) (by omega) (by omega) (fun cd38 => ?_) (fun cd38 => ?_)
            · skip
              refine lv_iconst (v := zI 0) hx hb dX7_digest_122 rfl ?_
              refine lv_istore_n (lv' := [(3, .int (zI (0))), (0, .ref (a 0)), (1, .long (dd2))]) hx hb dX7_digest_123 rfl hl (by decide) rfl (fun ls hl => ?_)
              have loop124 : ∀ (n : Nat) (i : Nat) (dd4 : Int64) (H : Heap) (locs : List Loc) (ls : Array Slot), 40 - i < n → ((i : Int) ≤ σ 20 1) → (dd4 = dL q σ i) → va_P D vwCl (wld cy a q σ ++ []) H → va_S (wF a s.heap.size) s.heap H locs → (∀ x : Nat, x < s.heap.size → H[x]? = s.heap[x]?) → lv_has ls 5 [(0, .ref (a 0)), (1, .long (dd4)), (3, .int (zI ((i : Int))))] → W p l e (headSpec wsX7_digest ({ frames := 14, cells := 373, slots := 2254, locals := 800 })).room s m ([.ref (a 0)] : List Value).toArray below meth c H locs (89 + i * 7) (534 + i * 42) (MQ below (va_Ql (fun (r : Int64) (_ : Unit) => r = dG q σ) (fun _ t => Wd D cy a q σ t) (wF a s.heap.size)) ([.ref (a 0)] : List Value).toArray s 373 2254 (wF a s.heap.size)) (F0 m 124 ls []) := by
                intro n
                induction n with
                | zero => intro i dd4 H locs ls h0; exact absurd h0 (Nat.not_lt_zero _)
                | succ n ih124 =>
                  intro i dd4 H locs ls hms hi4 hd4 hP hS hk0 hl
                  refine lv_iload_n hx hb dX7_digest_124 rfl (lv_at hl 2 rfl) ?_
                  refine lv_aload_n hx hb dX7_digest_125 rfl (lv_at hl 0 rfl) ?_
                  refine va_get (D := D) (ci := 9) (v := .ref (a 20)) (C := RX7) (T := TX7) (N := 9) hx hb hts inX7 hown hK hP 0 wg_S rfl 4 (by decide) k42 (fun _ h9 => h9) rfl dX7_digest_126 ?_
                  refine va_get (D := D) (ci := 3) (v := .int (zI (σ 20 1))) (C := RX1) (T := TX1) (N := 4) hx hb hts inX1 hown hK hP 20 wg_L rfl 1 (by decide) k283 (fun _ h9 => h9) rfl dX7_digest_129 ?_
                  refine z_icmp_ge (tgt := 172) hx hb dX7_digest_132 (by decide) (by omega) (by omega) (fun cd132 => ?_) (fun cd132 => ?_)
                  · skip
                    refine lv_lload_n hx hb dX7_digest_172 rfl (lv_at hl 1 rfl) ?_
                    refine lv_ldc2 (v := 31) hx hb hown (hts (.constantLong RX7 325 (31)) (by decide +kernel)) dX7_digest_173 ?_
                    refine lv_lmul hx hb dX7_digest_176 ?_
                    refine lv_aload_n hx hb dX7_digest_177 rfl (lv_at hl 0 rfl) ?_
                    refine va_callr (va_runV (As := []) (rest := [.long (dd4 * 31)]) ⟨hx, hb, hml, hown, hts⟩ (c_X7_jibs l D cy a q σ H.size J t0 (σ 1 5) hO) (cwV 0 hts gX7_digest_X7_jibs rfl rfl rfl (by decide +kernel) ⟨Nat.le_of_ble_eq_true rfl, Nat.le_of_ble_eq_true rfl⟩) ⟨WdJ_blind, va_recv hK hP (ci := 9) (q0 := 0) rfl wg_S, fun U hU hW => ⟨rfl, by rw [hU], Wd_mk (wP_left hP) hE0 hS hU hW, (hZ.mk hS hU hW).narrow (fun x h => wF_mono hS.1 x h)⟩⟩ rfl rfl hl.1 rfl (lv_room (Nat.le_of_ble_eq_true rfl)) dX7_digest_178 ⟨(show 89 + i * 7 + 4 ≤ 373 by omega), (show 534 + i * 42 + 40 ≤ 2254 by omega)⟩) hS (fun _ _ h => wF_mono hS.1 _ h) (fun _ h => wF_mono hS.1 _ h) (fun u9 ra9 t9 H locs ht hvm hw hB hz hk hS1 => ?_)
                    obtain ⟨wq, gq⟩ := u9
                    obtain ⟨hP9, hD9⟩ := hB
                    rw [ht] at hP9
                    dsimp only at hP9 hD9
                    have hP := hP9
                    have hD := hD9.weaken (fun _ _ _ h => wF_mono hS.1 _ h)
                    have hS := hS1
                    have hKJ := hZ.1
                    refine va_calli (va_runV (As := []) (rest := [.long (dd4 * 31)]) ⟨hx, hb, hml, hown, hts⟩ (c_J0_length_8abf5 l D J (wF a s.heap.size) H.size (fun y h => Or.inr (Nat.le_trans hS.1 h)) _ ra9 wq gq (jL σ (σ 0 5).toNat).toNat 62 js_at62 63 js_at63) (cwV 0 hts gX7_digest_J0_length_8abf5 rfl rfl rfl (by decide +kernel) ⟨Nat.le_of_ble_eq_true rfl, Nat.le_of_ble_eq_true rfl⟩) ⟨jW_blind, va_recv hKJ hP (ci := 0) (q0 := 62) rfl js_at62, fun U hU hW => ⟨rfl, by rw [hU], jW_mk hP hD hZ hS hU hW⟩⟩ rfl rfl hl.1 rfl (lv_room (Nat.le_of_ble_eq_true rfl)) dX7_digest_181 ⟨(show 89 + i * 7 + 4 + 0 ≤ 373 by omega), (show 534 + i * 42 + 40 + 0 ≤ 2254 by omega)⟩) hS (fun _ _ h => h.elim) (fun _ h => h) (fun rv9 u9 t9 H locs ht hvm hw hB hz hk hS1 => ?_)
                    have hP := hP.kept (fun k x hk9 => hk x.1 ((hP k x hk9).lt) (fun h => h))
                    have hS := hS1
                    obtain rfl := hw
                    have hjl : (((jL σ (σ 0 5).toNat).toNat : Nat) : Int) = jL σ (σ 0 5).toNat := by have := jL_b (σ := σ) (σ 0 5).toNat; omega
                    rw [hjl]
                    refine lv_i2l hx hb dX7_digest_184 rfl ?_
                    refine lv_ladd hx hb dX7_digest_185 ?_
                    refine lv_lstore_n (lv' := [(1, .long ((dd4 * 31) + ((zI (jL σ (σ 0 5).toNat)).toInt64))), (0, .ref (a 0)), (3, .int (zI ((i : Int))))]) hx hb dX7_digest_186 rfl hl (by decide) rfl (fun ls hl => ?_)
                    refine lv_lload_n hx hb dX7_digest_187 rfl (lv_at hl 0 rfl) ?_
                    refine lv_ldc2 (v := 31) hx hb hown (hts (.constantLong RX7 325 (31)) (by decide +kernel)) dX7_digest_188 ?_
                    refine lv_lmul hx hb dX7_digest_191 ?_
                    refine lv_aload_n hx hb dX7_digest_192 rfl (lv_at hl 1 rfl) ?_
                    refine va_calli (va_runV (As := []) (rest := [.long (((dd4 * 31) + ((zI (jL σ (σ 0 5).toNat)).toInt64)) * 31)]) ⟨hx, hb, hml, hown, hts⟩ (c_X7_isSound l D cy a q σ H.size _ hO) (cwV 0 hts gX7_digest_X7_isSound rfl rfl rfl (by decide +kernel) ⟨Nat.le_of_ble_eq_true rfl, Nat.le_of_ble_eq_true rfl⟩) ⟨Wd_blind, va_recv hK hP (ci := 9) (q0 := 0) rfl wg_S, fun U hU hW => ⟨rfl, by rw [hU], Wd_mk (wP_left hP) hE0 hS hU hW⟩⟩ rfl rfl hl.1 rfl (lv_room (Nat.le_of_ble_eq_true rfl)) dX7_digest_193 ⟨(show 89 + i * 7 + 4 + 0 + 0 ≤ 373 by omega), (show 534 + i * 42 + 40 + 0 + 0 ≤ 2254 by omega)⟩) hS (fun _ _ h => h.elim) (fun _ h => wF_mono hS.1 _ h) (fun rv193 u9 t9 H locs ht hvm hw hB hz hk hS1 => ?_)
                    have hP := hP.kept (fun k x hk9 => hk x.1 ((hP k x hk9).lt) (fun h => h))
                    have hS := hS1
                    obtain rfl := hw
                    refine z_if_eq (tgt := 203) hx hb dX7_digest_196 (by decide) (by decide) (fun cd196 => absurd cd196 (by decide)) (fun _ => ?_)
                    refine lv_iconst (v := zI 1) hx hb dX7_digest_199 rfl ?_
                    refine lv_goto (tgt := 204) hx hb dX7_digest_200 (by decide) ?_
                    refine lv_i2l hx hb dX7_digest_204 rfl ?_
                    refine lv_ladd hx hb dX7_digest_205 ?_
                    refine W.widen (k := 373) (n := 2254) (by omega) (by omega) ?_
                    have hlr : (((dd4 * 31) + ((zI (jL σ (σ 0 5).toNat)).toInt64)) * 31) + ((zI 1).toInt64) = dG q σ := (by rw [hd4, show i = (σ 20 1).toNat by omega]; rfl)
                    rw [hlr]
                    exact W.lret (v := dG q σ) hx hb hr (fun t9 ht hW => ⟨⟨_, (), rfl, rfl, Wd_mk (wP_left hP) hE0 hS ht hW⟩, hS.F ht⟩) hS.2.2 dX7_digest_206
                  · skip
                    refine lv_iconst (v := zI 0) hx hb dX7_digest_135 rfl ?_
                    refine lv_istore (lv' := [(4, .int (zI (0))), (0, .ref (a 0)), (1, .long (dd4)), (3, .int (zI ((i : Int))))]) hx hb dX7_digest_136 hl (by decide) rfl (fun ls hl => ?_)
                    have loop138 : ∀ (n : Nat) (k : Nat) (dd5 : Int64) (H : Heap) (locs : List Loc) (ls : Array Slot), 7 - k < n → (k ≤ 7) → (dd5 = dP q σ i (dL q σ i) k) → va_P D vwCl (wld cy a q σ ++ []) H → va_S (wF a s.heap.size) s.heap H locs → (∀ x : Nat, x < s.heap.size → H[x]? = s.heap[x]?) → lv_has ls 5 [(0, .ref (a 0)), (1, .long (dd5)), (3, .int (zI ((i : Int)))), (4, .int (zI ((k : Int))))] → W p l e (headSpec wsX7_digest ({ frames := 14, cells := 373, slots := 2254, locals := 800 })).room s m ([.ref (a 0)] : List Value).toArray below meth c H locs (89 + i * 7 + k * 1) (534 + i * 42 + k * 6) (MQ below (va_Ql (fun (r : Int64) (_ : Unit) => r = dG q σ) (fun _ t => Wd D cy a q σ t) (wF a s.heap.size)) ([.ref (a 0)] : List Value).toArray s 373 2254 (wF a s.heap.size)) (F0 m 138 ls []) := by
                      intro n
                      induction n with
                      | zero => intro k dd5 H locs ls h0; exact absurd h0 (Nat.not_lt_zero _)
                      | succ n ih138 =>
                        intro k dd5 H locs ls hms hk5 hd5 hP hS hk0 hl
                        refine lv_iload hx hb dX7_digest_138 (lv_at hl 3 rfl) ?_
                        refine lv_bipush (v := zI 6) hx hb dX7_digest_140 (by decide +kernel) ?_
                        refine z_icmp_gt (tgt := 166) hx hb dX7_digest_142 (by decide) (by omega) (by omega) (fun cd142 => ?_) (fun cd142 => ?_)
                        · skip
                          refine lv_iinc (v := zI ((i : Int) + 1)) (lv' := [(3, .int (zI ((i : Int) + 1))), (0, .ref (a 0)), (1, .long (dd5)), (4, .int (zI ((k : Int))))]) hx hb dX7_digest_166 hl (k := 2) rfl (zI_add _ _) (by decide) rfl (fun ls hl => ?_)
                          refine lv_goto (tgt := 124) hx hb dX7_digest_169 (by decide) ?_
                          refine W.widen (k := 89 + (i + 1) * 7) (n := 534 + (i + 1) * 42) (by omega) (by omega) ?_
                          exact ih124 (i + 1) (dd5) H locs ls (by omega) (by omega) (by rw [hd5, show k = 7 by omega]; rfl)  hP hS hk0 (by have h9 := lv_sub hl [1, 2, 0] rfl; exact h9)
                        · skip
                          refine lv_lload_n hx hb dX7_digest_145 rfl (lv_at hl 1 rfl) ?_
                          refine lv_ldc2 (v := 31) hx hb hown (hts (.constantLong RX7 325 (31)) (by decide +kernel)) dX7_digest_146 ?_
                          refine lv_lmul hx hb dX7_digest_149 ?_
                          refine lv_aload_n hx hb dX7_digest_150 rfl (lv_at hl 0 rfl) ?_
                          refine lv_iload_n hx hb dX7_digest_151 rfl (lv_at hl 2 rfl) ?_
                          refine lv_iload hx hb dX7_digest_152 (lv_at hl 3 rfl) ?_
                          refine vx_calli (vx_runV (As := [.int (zI ((i : Int))), .int (zI ((k : Int)))]) (rest := [.long (dd5 * 31)]) ⟨hx, hb, hml, hown, hts⟩ (c_X7_page l hlT D cy a q σ H.size ((i : Int)) (by omega) ((k : Int)) (by omega) _ _ hO) (cwV 2 hts gX7_digest_X7_page rfl rfl rfl (by decide +kernel) ⟨Nat.le_of_ble_eq_true rfl, Nat.le_of_ble_eq_true rfl⟩) ⟨Wd_blind, va_recv hK hP (ci := 9) (q0 := 0) rfl wg_S, fun U hU hW => ⟨rfl, by rw [hU], Wd_mk (wP_left hP) hE0 hS hU hW⟩⟩ rfl rfl hl.1 rfl (lv_room (Nat.le_of_ble_eq_true rfl)) dX7_digest_154 ⟨(show 89 + i * 7 + k * 1 + 1 ≤ 373 by omega), (show 534 + i * 42 + k * 6 + 6 ≤ 2254 by omega)⟩) hS (fun _ _ h => h.elim) (fun _ h => wF_mono hS.1 _ h) (fun _ _ h => h.elim) (fun E9 ce9 q9 u9 t9 H locs ht hvm hpx hE hz hk hS1 hce hcv hcl => ?_) (fun rv154 u9 t9 H locs ht hvm hw hB hz hk hS1 => ?_)
                          · skip
                            exact absurd hpx (by omega)
                          · skip
                            have hP := hP.kept (fun k x hk9 => hk x.1 ((hP k x hk9).lt) (fun h => h))
                            have hk0 : ∀ x : Nat, x < s.heap.size → H[x]? = s.heap[x]? := fun x h9 => (hk x (Nat.lt_of_lt_of_le h9 hS.1) (fun h => h)).trans (hk0 x h9)
                            have hS := hS1
                            obtain rfl := hw
                            refine lv_i2l hx hb dX7_digest_157 rfl ?_
                            refine lv_ladd hx hb dX7_digest_158 ?_
                            refine lv_lstore_n (lv' := [(1, .long ((dd5 * 31) + ((zI (σ (22 + q (i : Int).toNat) (k : Int).toNat)).toInt64))), (0, .ref (a 0)), (3, .int (zI ((i : Int)))), (4, .int (zI ((k : Int))))]) hx hb dX7_digest_159 rfl hl (by decide) rfl (fun ls hl => ?_)
                            refine lv_iinc (v := zI ((k : Int) + 1)) (lv' := [(4, .int (zI ((k : Int) + 1))), (1, .long ((dd5 * 31) + ((zI (σ (22 + q (i : Int).toNat) (k : Int).toNat)).toInt64))), (0, .ref (a 0)), (3, .int (zI ((i : Int))))]) hx hb dX7_digest_160 hl (k := 3) rfl (zI_add _ _) (by decide) rfl (fun ls hl => ?_)
                            refine lv_goto (tgt := 138) hx hb dX7_digest_163 (by decide) ?_
                            refine W.widen (k := 89 + i * 7 + (k + 1) * 1) (n := 534 + i * 42 + (k + 1) * 6) (by omega) (by omega) ?_
                            exact ih138 (k + 1) ((dd5 * 31) + ((zI (σ (22 + q (i : Int).toNat) (k : Int).toNat)).toInt64)) H locs ls (by omega) (by omega) (by rw [hd5]; rfl)  hP hS hk0 (by have h9 := lv_sub hl [2, 1, 3, 0] rfl; exact h9)
                    refine W.widen (k := 89 + i * 7 + 0 * 1) (n := 534 + i * 42 + 0 * 6) (by omega) (by omega) ?_
                    exact loop138 (8) 0 (dd4) H locs ls (by omega) (by omega) hd4  hP hS hk0 (lv_sub hl [1, 2, 3, 0] rfl)
              refine W.widen (k := 89 + 0 * 7) (n := 534 + 0 * 42) (by omega) (by omega) ?_
              exact loop124 (41) 0 (dd2) H locs ls (by omega) (by omega) (by rw [hd2, show i = (σ 0 5).toNat by omega]; rfl)  hP hS hk0 (lv_sub hl [1, 2, 0] rfl)
            · skip
              have oCi := oC i (by omega); unfold okC at oCi
              refine lv_iconst (v := zI 0) hx hb dX7_digest_41 rfl ?_
              refine lv_istore (lv' := [(4, .int (zI (0))), (0, .ref (a 0)), (1, .long (dd2)), (3, .int (zI ((i : Int))))]) hx hb dX7_digest_42 hl (by decide) rfl (fun ls hl => ?_)
              have loop44 : ∀ (n : Nat) (k : Nat) (dd3 : Int64) (H : Heap) (locs : List Loc) (ls : Array Slot), 10 - k < n → (k ≤ 10) → (dd3 = dO σ i (dC q σ i) k) → va_P D vwCl (wld cy a q σ ++ []) H → va_S (wF a s.heap.size) s.heap H locs → (∀ x : Nat, x < s.heap.size → H[x]? = s.heap[x]?) → lv_has ls 5 [(0, .ref (a 0)), (1, .long (dd3)), (3, .int (zI ((i : Int)))), (4, .int (zI ((k : Int))))] → W p l e (headSpec wsX7_digest ({ frames := 14, cells := 373, slots := 2254, locals := 800 })).room s m ([.ref (a 0)] : List Value).toArray below meth c H locs (17 + i * 24 + k * 2) (102 + i * 144 + k * 12) (MQ below (va_Ql (fun (r : Int64) (_ : Unit) => r = dG q σ) (fun _ t => Wd D cy a q σ t) (wF a s.heap.size)) ([.ref (a 0)] : List Value).toArray s 373 2254 (wF a s.heap.size)) (F0 m 44 ls []) := by
                intro n
                induction n with
                | zero => intro k dd3 H locs ls h0; exact absurd h0 (Nat.not_lt_zero _)
                | succ n ih44 =>
                  intro k dd3 H locs ls hms hk3 hd3 hP hS hk0 hl
                  refine lv_iload hx hb dX7_digest_44 (lv_at hl 3 rfl) ?_
                  refine lv_bipush (v := zI 9) hx hb dX7_digest_46 (by decide +kernel) ?_
                  refine z_icmp_gt (tgt := 72) hx hb dX7_digest_48 (by decide) (by omega) (by omega) (fun cd48 => ?_) (fun cd48 => ?_)
                  · skip
                    refine lv_lload_n hx hb dX7_digest_72 rfl (lv_at hl 1 rfl) ?_
                    refine lv_ldc2 (v := 31) hx hb hown (hts (.constantLong RX7 325 (31)) (by decide +kernel)) dX7_digest_73 ?_
                    refine lv_lmul hx hb dX7_digest_76 ?_
                    refine lv_aload_n hx hb dX7_digest_77 rfl (lv_at hl 0 rfl) ?_
                    refine lv_iload_n hx hb dX7_digest_78 rfl (lv_at hl 2 rfl) ?_
                    refine lv_aload_n hx hb dX7_digest_79 rfl (lv_at hl 0 rfl) ?_
                    refine va_get (D := D) (ci := 9) (v := .ref (a 2)) (C := RX7) (T := TX7) (N := 9) hx hb hts inX7 hown hK hP 0 wg_S rfl 1 (by decide) k18 (fun _ h9 => h9) rfl dX7_digest_80 ?_
                    refine lv_iload_n hx hb dX7_digest_83 rfl (lv_at hl 2 rfl) ?_
                    refine z_aald (i := i) hx hb hK hP 2 0 wg_AC rfl (by omega) (by omega) (by omega) dX7_digest_84 ?_
                    refine va_get (D := D) (ci := 2) (v := .int (zI (σ (3 + i) 1))) (C := RX0) (T := TX0) (N := 12) hx hb hts inX0 hown hK hP (3 + i) (wg_C (i := i) (by first | assumption | omega)) rfl 1 (by decide) k66 (fun _ h9 => h9) rfl dX7_digest_85 ?_
                    refine vx_calli (vx_runV (As := [.int (zI ((i : Int))), .int (zI (σ (3 + i) 1))]) (rest := [.long (dd3 * 31)]) ⟨hx, hb, hml, hown, hts⟩ (c_X7_capacity l hlT D cy a q σ H.size ((i : Int)) (by omega) (σ (3 + i) 1) (by omega) _ _ hO) (cwV 2 hts gX7_digest_X7_capacity rfl rfl rfl (by decide +kernel) ⟨Nat.le_of_ble_eq_true rfl, Nat.le_of_ble_eq_true rfl⟩) ⟨Wd_blind, va_recv hK hP (ci := 9) (q0 := 0) rfl wg_S, fun U hU hW => ⟨rfl, by rw [hU], Wd_mk (wP_left hP) hE0 hS hU hW⟩⟩ rfl rfl hl.1 rfl (lv_room (Nat.le_of_ble_eq_true rfl)) dX7_digest_88 ⟨(show 17 + i * 24 + k * 2 + 2 ≤ 373 by omega), (show 102 + i * 144 + k * 12 + 12 ≤ 2254 by omega)⟩) hS (fun _ _ h => h.elim) (fun _ h => wF_mono hS.1 _ h) (fun _ _ h => h.elim) (fun E9 ce9 q9 u9 t9 H locs ht hvm hpx hE hz hk hS1 hce hcv hcl => ?_) (fun rv88 u9 t9 H locs ht hvm hw hB hz hk hS1 => ?_)
                    · skip
                      exact absurd hpx (by rw [Int.toNat_natCast]; omega)
                    · skip
                      have hP := hP.kept (fun k x hk9 => hk x.1 ((hP k x hk9).lt) (fun h => h))
                      have hk0 : ∀ x : Nat, x < s.heap.size → H[x]? = s.heap[x]? := fun x h9 => (hk x (Nat.lt_of_lt_of_le h9 hS.1) (fun h => h)).trans (hk0 x h9)
                      have hS := hS1
                      obtain rfl := hw
                      refine lv_i2l hx hb dX7_digest_91 rfl ?_
                      refine lv_ladd hx hb dX7_digest_92 ?_
                      refine lv_lstore_n (lv' := [(1, .long ((dd3 * 31) + ((zI (cpF (σ (3 + (i : Int).toNat)) (σ (3 + i) 1) (σ 1 5))).toInt64))), (0, .ref (a 0)), (3, .int (zI ((i : Int)))), (4, .int (zI ((k : Int))))]) hx hb dX7_digest_93 rfl hl (by decide) rfl (fun ls hl => ?_)
                      refine lv_lload_n hx hb dX7_digest_94 rfl (lv_at hl 0 rfl) ?_
                      refine lv_ldc2 (v := 31) hx hb hown (hts (.constantLong RX7 325 (31)) (by decide +kernel)) dX7_digest_95 ?_
                      refine lv_lmul hx hb dX7_digest_98 ?_
                      refine lv_aload_n hx hb dX7_digest_99 rfl (lv_at hl 1 rfl) ?_
                      refine lv_iload_n hx hb dX7_digest_100 rfl (lv_at hl 2 rfl) ?_
                      refine lv_aload_n hx hb dX7_digest_101 rfl (lv_at hl 1 rfl) ?_
                      refine va_get (D := D) (ci := 9) (v := .ref (a 2)) (C := RX7) (T := TX7) (N := 9) hx hb hts inX7 hown hK hP 0 wg_S rfl 1 (by decide) k18 (fun _ h9 => h9) rfl dX7_digest_102 ?_
                      refine lv_iload_n hx hb dX7_digest_105 rfl (lv_at hl 2 rfl) ?_
                      refine z_aald (i := i) hx hb hK hP 2 0 wg_AC rfl (by omega) (by omega) (by omega) dX7_digest_106 ?_
                      refine va_get (D := D) (ci := 2) (v := .int (zI (σ (3 + i) 1))) (C := RX0) (T := TX0) (N := 12) hx hb hts inX0 hown hK hP (3 + i) (wg_C (i := i) (by first | assumption | omega)) rfl 1 (by decide) k66 (fun _ h9 => h9) rfl dX7_digest_107 ?_
                      refine vx_calli (vx_runV (As := [.int (zI ((i : Int))), .int (zI (σ (3 + i) 1))]) (rest := [.long (((dd3 * 31) + ((zI (cpF (σ (3 + (i : Int).toNat)) (σ (3 + i) 1) (σ 1 5))).toInt64)) * 31)]) ⟨hx, hb, hml, hown, hts⟩ (c_X7_bearable l hlT D cy a q σ H.size ((i : Int)) (by omega) (σ (3 + i) 1) (by omega) _ _ hO) (cwV 2 hts gX7_digest_X7_bearable rfl rfl rfl (by decide +kernel) ⟨Nat.le_of_ble_eq_true rfl, Nat.le_of_ble_eq_true rfl⟩) ⟨Wd_blind, va_recv hK hP (ci := 9) (q0 := 0) rfl wg_S, fun U hU hW => ⟨rfl, by rw [hU], Wd_mk (wP_left hP) hE0 hS hU hW⟩⟩ rfl rfl hl.1 rfl (lv_room (Nat.le_of_ble_eq_true rfl)) dX7_digest_110 ⟨(show 17 + i * 24 + k * 2 + 2 + 2 ≤ 373 by omega), (show 102 + i * 144 + k * 12 + 12 + 12 ≤ 2254 by omega)⟩) hS (fun _ _ h => h.elim) (fun _ h => wF_mono hS.1 _ h) (fun _ _ h => h.elim) (fun E9 ce9 q9 u9 t9 H locs ht hvm hpx hE hz hk hS1 hce hcv hcl => ?_) (fun rv110 u9 t9 H locs ht hvm hw hB hz hk hS1 => ?_)
                      · skip
                        exact absurd hpx (by rw [Int.toNat_natCast]; omega)
                      · skip
                        have hP := hP.kept (fun k x hk9 => hk x.1 ((hP k x hk9).lt) (fun h => h))
                        have hk0 : ∀ x : Nat, x < s.heap.size → H[x]? = s.heap[x]? := fun x h9 => (hk x (Nat.lt_of_lt_of_le h9 hS.1) (fun h => h)).trans (hk0 x h9)
                        have hS := hS1
                        obtain rfl := hw
                        refine lv_i2l hx hb dX7_digest_113 rfl ?_
                        refine lv_ladd hx hb dX7_digest_114 ?_
                        refine lv_lstore_n (lv' := [(1, .long ((((dd3 * 31) + ((zI (cpF (σ (3 + (i : Int).toNat)) (σ (3 + i) 1) (σ 1 5))).toInt64)) * 31) + ((zI (beR (σ (3 + (i : Int).toNat)) (σ (3 + i) 1) 13)).toInt64))), (0, .ref (a 0)), (3, .int (zI ((i : Int)))), (4, .int (zI ((k : Int))))]) hx hb dX7_digest_115 rfl hl (by decide) rfl (fun ls hl => ?_)
                        refine lv_iinc (v := zI ((i : Int) + 1)) (lv' := [(3, .int (zI ((i : Int) + 1))), (1, .long ((((dd3 * 31) + ((zI (cpF (σ (3 + (i : Int).toNat)) (σ (3 + i) 1) (σ 1 5))).toInt64)) * 31) + ((zI (beR (σ (3 + (i : Int).toNat)) (σ (3 + i) 1) 13)).toInt64))), (0, .ref (a 0)), (4, .int (zI ((k : Int))))]) hx hb dX7_digest_116 hl (k := 2) rfl (zI_add _ _) (by decide) rfl (fun ls hl => ?_)
                        refine lv_goto (tgt := 33) hx hb dX7_digest_119 (by decide) ?_
                        refine W.widen (k := 17 + (i + 1) * 24) (n := 102 + (i + 1) * 144) (by omega) (by omega) ?_
                        exact ih33 (i + 1) ((((dd3 * 31) + ((zI (cpF (σ (3 + (i : Int).toNat)) (σ (3 + i) 1) (σ 1 5))).toInt64)) * 31) + ((zI (beR (σ (3 + (i : Int).toNat)) (σ (3 + i) 1) 13)).toInt64)) H locs ls (by omega) (by omega) (by rw [hd3, show k = 10 by omega]; rfl)  hP hS hk0 (by have h9 := lv_sub hl [2, 1, 0] rfl; exact h9)
                  · skip
                    refine lv_lload_n hx hb dX7_digest_51 rfl (lv_at hl 1 rfl) ?_
                    refine lv_ldc2 (v := 31) hx hb hown (hts (.constantLong RX7 325 (31)) (by decide +kernel)) dX7_digest_52 ?_
                    refine lv_lmul hx hb dX7_digest_55 ?_
                    refine lv_aload_n hx hb dX7_digest_56 rfl (lv_at hl 0 rfl) ?_
                    refine lv_iload_n hx hb dX7_digest_57 rfl (lv_at hl 2 rfl) ?_
                    refine lv_iload hx hb dX7_digest_58 (lv_at hl 3 rfl) ?_
                    refine vx_calli (vx_runV (As := [.int (zI ((i : Int))), .int (zI ((k : Int)))]) (rest := [.long (dd3 * 31)]) ⟨hx, hb, hml, hown, hts⟩ (c_X7_ofCrane l hlT D cy a q σ H.size ((i : Int)) (by omega) ((k : Int)) (by omega) _ _ hO) (cwV 2 hts gX7_digest_X7_ofCrane rfl rfl rfl (by decide +kernel) ⟨Nat.le_of_ble_eq_true rfl, Nat.le_of_ble_eq_true rfl⟩) ⟨Wd_blind, va_recv hK hP (ci := 9) (q0 := 0) rfl wg_S, fun U hU hW => ⟨rfl, by rw [hU], Wd_mk (wP_left hP) hE0 hS hU hW⟩⟩ rfl rfl hl.1 rfl (lv_room (Nat.le_of_ble_eq_true rfl)) dX7_digest_60 ⟨(show 17 + i * 24 + k * 2 + 2 ≤ 373 by omega), (show 102 + i * 144 + k * 12 + 12 ≤ 2254 by omega)⟩) hS (fun _ _ h => h.elim) (fun _ h => wF_mono hS.1 _ h) (fun _ _ h => h.elim) (fun E9 ce9 q9 u9 t9 H locs ht hvm hpx hE hz hk hS1 hce hcv hcl => ?_) (fun rv60 u9 t9 H locs ht hvm hw hB hz hk hS1 => ?_)
                    · skip
                      exact absurd hpx (by omega)
                    · skip
                      have hP := hP.kept (fun k x hk9 => hk x.1 ((hP k x hk9).lt) (fun h => h))
                      have hk0 : ∀ x : Nat, x < s.heap.size → H[x]? = s.heap[x]? := fun x h9 => (hk x (Nat.lt_of_lt_of_le h9 hS.1) (fun h => h)).trans (hk0 x h9)
                      have hS := hS1
                      obtain rfl := hw
                      refine lv_i2l hx hb dX7_digest_63 rfl ?_
                      refine lv_ladd hx hb dX7_digest_64 ?_
                      refine lv_lstore_n (lv' := [(1, .long ((dd3 * 31) + ((zI (ofF σ (i : Int).toNat (k : Int))).toInt64))), (0, .ref (a 0)), (3, .int (zI ((i : Int)))), (4, .int (zI ((k : Int))))]) hx hb dX7_digest_65 rfl hl (by decide) rfl (fun ls hl => ?_)
                      refine lv_iinc (v := zI ((k : Int) + 1)) (lv' := [(4, .int (zI ((k : Int) + 1))), (1, .long ((dd3 * 31) + ((zI (ofF σ (i : Int).toNat (k : Int))).toInt64))), (0, .ref (a 0)), (3, .int (zI ((i : Int))))]) hx hb dX7_digest_66 hl (k := 3) rfl (zI_add _ _) (by decide) rfl (fun ls hl => ?_)
                      refine lv_goto (tgt := 44) hx hb dX7_digest_69 (by decide) ?_
                      refine W.widen (k := 17 + i * 24 + (k + 1) * 2) (n := 102 + i * 144 + (k + 1) * 12) (by omega) (by omega) ?_
                      exact ih44 (k + 1) ((dd3 * 31) + ((zI (ofF σ (i : Int).toNat (k : Int))).toInt64)) H locs ls (by omega) (by omega) (by rw [hd3]; rfl)  hP hS hk0 (by have h9 := lv_sub hl [2, 1, 3, 0] rfl; exact h9)
              refine W.widen (k := 17 + i * 24 + 0 * 2) (n := 102 + i * 144 + 0 * 12) (by omega) (by omega) ?_
              exact loop44 (11) 0 (dd2) H locs ls (by omega) (by omega) hd2  hP hS hk0 (lv_sub hl [1, 2, 3, 0] rfl)
        refine W.widen (k := 17 + 0 * 24) (n := 102 + 0 * 144) (by omega) (by omega) ?_
        exact loop33 (4) 0 (dd1) H locs ls (by omega) (by omega) (by rw [hd1, show k = 17 by omega]; rfl)  hP hS hk0 (lv_sub hl [1, 2, 0] rfl)
      · skip
        refine lv_lload_n hx hb dX7_digest_12 rfl (lv_at hl 1 rfl) ?_
        refine lv_ldc2 (v := 31) hx hb hown (hts (.constantLong RX7 325 (31)) (by decide +kernel)) dX7_digest_13 ?_
        refine lv_lmul hx hb dX7_digest_16 ?_
        refine lv_aload_n hx hb dX7_digest_17 rfl (lv_at hl 0 rfl) ?_
        refine lv_iload_n hx hb dX7_digest_18 rfl (lv_at hl 2 rfl) ?_
        refine vx_calli (vx_runV (As := [.int (zI ((k : Int)))]) (rest := [.long (dd1 * 31)]) ⟨hx, hb, hml, hown, hts⟩ (c_X7_site l hlT D cy a q σ H.size ((k : Int)) (by omega) _ _ hO) (cwV 1 hts gX7_digest_X7_site rfl rfl rfl (by decide +kernel) ⟨Nat.le_of_ble_eq_true rfl, Nat.le_of_ble_eq_true rfl⟩) ⟨Wd_blind, va_recv hK hP (ci := 9) (q0 := 0) rfl wg_S, fun U hU hW => ⟨rfl, by rw [hU], Wd_mk (wP_left hP) hE0 hS hU hW⟩⟩ rfl rfl hl.1 rfl (lv_room (Nat.le_of_ble_eq_true rfl)) dX7_digest_19 ⟨(show k * 1 + 1 ≤ 373 by omega), (show k * 6 + 6 ≤ 2254 by omega)⟩) hS (fun _ _ h => h.elim) (fun _ h => wF_mono hS.1 _ h) (fun _ _ h => h.elim) (fun E9 ce9 q9 u9 t9 H locs ht hvm hpx hE hz hk hS1 hce hcv hcl => ?_) (fun rv19 u9 t9 H locs ht hvm hw hB hz hk hS1 => ?_)
        · skip
          exact absurd hpx (by omega)
        · skip
          have hP := hP.kept (fun k x hk9 => hk x.1 ((hP k x hk9).lt) (fun h => h))
          have hk0 : ∀ x : Nat, x < s.heap.size → H[x]? = s.heap[x]? := fun x h9 => (hk x (Nat.lt_of_lt_of_le h9 hS.1) (fun h => h)).trans (hk0 x h9)
          have hS := hS1
          obtain rfl := hw
          refine lv_i2l hx hb dX7_digest_22 rfl ?_
          refine lv_ladd hx hb dX7_digest_23 ?_
          refine lv_lstore_n (lv' := [(1, .long ((dd1 * 31) + ((zI (siF q σ (k : Int))).toInt64))), (0, .ref (a 0)), (3, .int (zI ((k : Int))))]) hx hb dX7_digest_24 rfl hl (by decide) rfl (fun ls hl => ?_)
          refine lv_iinc (v := zI ((k : Int) + 1)) (lv' := [(3, .int (zI ((k : Int) + 1))), (1, .long ((dd1 * 31) + ((zI (siF q σ (k : Int))).toInt64))), (0, .ref (a 0))]) hx hb dX7_digest_25 hl (k := 2) rfl (zI_add _ _) (by decide) rfl (fun ls hl => ?_)
          refine lv_goto (tgt := 6) hx hb dX7_digest_28 (by decide) ?_
          refine W.widen (k := (k + 1) * 1) (n := (k + 1) * 6) (by omega) (by omega) ?_
          exact ih6 (k + 1) ((dd1 * 31) + ((zI (siF q σ (k : Int))).toInt64)) H locs ls (by omega) (by omega) (by rw [hd1]; rfl)  hP hS hk0 (by have h9 := lv_sub hl [2, 1, 0] rfl; exact h9)
  refine W.widen (k := 0 * 1) (n := 0 * 6) (by omega) (by omega) ?_
  exact loop6 (18) 0 (8923) s.heap [] ls (by omega) (by omega) rfl  hP hS hk0 (lv_sub hl [2, 1, 0] rfl)
