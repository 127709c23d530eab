/-! THE LAW'S OWN METHODS -/
def shI (v k : Int) : Int := (zI v >>> (zI k &&& 31)).toInt
theorem shI_rg (v k : Int) : rg (shI v k) := ⟨by unfold shI; have := Int32.le_toInt (zI v >>> (zI k &&& 31)); omega, by unfold shI; have := Int32.toInt_lt (zI v >>> (zI k &&& 31)); omega⟩
theorem zI_shI (v k : Int) : zI v >>> (zI k &&& 31) = zI (shI v k) := (Int32.ofInt_toInt _).symm
theorem zI_and31 {x : Int} (h : rg x) : zI x &&& zI 2147483647 = zI (x % 2147483648) := by
  apply Int32.toBitVec_inj.mp
  apply BitVec.eq_of_toNat_eq
  have e1 : (zI x &&& zI 2147483647).toBitVec.toNat = (BitVec.ofInt 32 x).toNat &&& (2 ^ 31 - 1) := rfl
  have e2 : (zI (x % 2147483648)).toBitVec.toNat = (BitVec.ofInt 32 (x % 2147483648)).toNat := rfl
  rw [e1, e2, Nat.and_two_pow_sub_one_eq_mod, BitVec.toNat_ofInt, BitVec.toNat_ofInt]
  omega
section ZL
variable {p : Program} {l : Launch} {e : Env} {R : Room} {s : State} {m : MethodId} {args : Array Value} {below : List Frame} {meth : Method} {c : Code} {H : Heap} {locs : List Loc} {cells slots : Nat} {Q : State → Prop} {cc : ByteArray} {pc : Nat} {ls : Array Slot} {rest : List Value} {x y : Int}
theorem z_ishr (hx : p.tables.exec = Jvm.exec) (hb : c.code = cc) (hdg : decode cc pc = .ok (.ishr, 1)) (k : W p l e R s m args below meth c H locs cells slots Q (F0 m (pc + 1) ls (.int (zI (shI x y)) :: rest))) : W p l e R s m args below meth c H locs cells slots Q (F0 m pc ls (.int (zI y) :: .int (zI x) :: rest)) := lv_ishr hx hb hdg (by rw [zI_shI]; exact k)
theorem z_iand31 (hx : p.tables.exec = Jvm.exec) (hb : c.code = cc) (hdg : decode cc pc = .ok (.iand, 1)) (h : rg x) (k : W p l e R s m args below meth c H locs cells slots Q (F0 m (pc + 1) ls (.int (zI (x % 2147483648)) :: rest))) : W p l e R s m args below meth c H locs cells slots Q (F0 m pc ls (.int (zI 2147483647) :: .int (zI x) :: rest)) := lv_iand hx hb hdg (by rw [zI_and31 h]; exact k)
end ZL
set_option maxHeartbeats 4000000 in
set_option maxRecDepth 100000 in
/-- L_below -/
theorem c_L_below (l : Launch) (x : Int) (hx : rg x) (n : Int) (hn : rg n) (hn9 : 0 < n) : Met l yL_below wsL_below ({ frames := 7, cells := 0, slots := 0, locals := 100 }) (va_Pc [.int (zI (x)), .int (zI (n))] (fun _ => True)) (va_Qi (fun (r : Int32) (_ : Unit) => r = zI (x % 2147483648 % n)) (fun _ _ => True) (fun _ => False)) 0 0 (fun _ => False) := by
  refine Met.ofW (cc := cL_below) (maxL := 2) (ret := (some .int)) (by decide) rfl ?_
  intro p e s m args below meth c s₁ B hml hpc0
  obtain ⟨rfl, -⟩ := hpc0
  have hx := B.exec
  have hb := B.bytes
  have hr := B.returns
  have hts := atoms_spec (ws := wsL_below) B.pre
  have hown : s.vm.findClass RL = some m.cls := findClass_of_methodNamed B.named
  have hlocks := B.notSynchronized
  have hS : va_S (fun _ => False) s.heap s.heap [] := va_S.rf
  have hl := lv_entry ([.int (zI (x)), .int (zI (n))]) (n := 2) (Nat.le_of_ble_eq_true rfl)
  rw [lg_entry_eq]
  generalize (lg_sl ([.int (zI (x)), .int (zI (n))]) ++ List.replicate (2 - (lg_sl ([.int (zI (x)), .int (zI (n))])).length) Slot.unset).toArray = ls at hl ⊢
  have hl : lv_has ls 2 [(0, .int (zI (x))), (1, .int (zI (n)))] := hl
  refine lv_iload_n hx hb dL_below_0 rfl (lv_at hl 0 rfl) ?_
  refine lv_ldc (v := (2147483647 : Int32)) hx hb hown (hts (.constant RL 7 (2147483647)) (by decide +kernel)) dL_below_1 ?_
  rw [show (2147483647 : Int32) = zI (2147483647) by decide]
  refine z_iand31 hx hb dL_below_3 (by omega) ?_
  refine lv_iload_n hx hb dL_below_4 rfl (lv_at hl 1 rfl) ?_
  refine z_irem hx hb dL_below_5 (by omega) (by omega) ?_
  exact W.iret (v := zI ((x % 2147483648) % n)) hx hb hr (fun t9 ht hW => ⟨⟨_, (), rfl, (by first | rfl | (congr 1; omega)), trivial⟩, vF_R ht hS.1 (fun x h9 => hS.2.1 x h9 (fun h => h))⟩) hS.2.2 dL_below_6

set_option maxHeartbeats 4000000 in
set_option maxRecDepth 100000 in
/-- L_cell -/
theorem c_L_cell (l : Launch) (b : Nat) (k : Int) (hk : rg k) (hk9 : 0 ≤ k) (L : Nat) (xs : Nat → Int32) (hL9 : L ≤ 260) : Met l yL_cell wsL_cell ({ frames := 7, cells := 0, slots := 0, locals := 100 }) (va_Pc [.ref (b), .int (zI (k))] (fun U => va_X b L xs U U.heap ∧ b < U.heap.size)) (va_Qi (fun (r : Int32) (_ : Unit) => ∃ z : Int, r = zI z ∧ (True)) (fun _ _ => True) (fun _ => False)) 0 0 (fun _ => False) := by
  refine Met.ofW (cc := cL_cell) (maxL := 2) (ret := (some .int)) (by decide) rfl ?_
  intro p e s m args below meth c s₁ B hml hpc0
  obtain ⟨rfl, hX, hbl⟩ := hpc0
  have hx := B.exec
  have hb := B.bytes
  have hr := B.returns
  have hts := atoms_spec (ws := wsL_cell) B.pre
  have hown : s.vm.findClass RL = some m.cls := findClass_of_methodNamed B.named
  have hlocks := B.notSynchronized
  have hS : va_S (fun _ => False) s.heap s.heap [] := va_S.rf
  have hl := lv_entry ([.ref (b), .int (zI (k))]) (n := 2) (Nat.le_of_ble_eq_true rfl)
  rw [lg_entry_eq]
  generalize (lg_sl ([.ref (b), .int (zI (k))]) ++ List.replicate (2 - (lg_sl ([.ref (b), .int (zI (k))])).length) Slot.unset).toArray = ls at hl ⊢
  have hl : lv_has ls 2 [(0, .ref (b)), (1, .int (zI (k)))] := hl
  refine lv_iload_n hx hb dL_cell_0 rfl (lv_at hl 1 rfl) ?_
  refine lv_aload_n hx hb dL_cell_1 rfl (lv_at hl 0 rfl) ?_
  refine va_slen hx hb hX hbl (fun h => h) hS dL_cell_2 ?_
  rw [show Int32.ofNat L = zI (L : Int) from zI_nI L]
  refine z_icmp_ge (tgt := 12) hx hb dL_cell_3 (by decide) (by omega) (by omega) (fun cd3 => ?_) (fun cd3 => ?_)
  · skip
    refine lv_ldc (v := (790386105 : Int32)) hx hb hown (hts (.constant RL 8 (790386105)) (by decide +kernel)) dL_cell_12 ?_
    rw [show (790386105 : Int32) = zI (790386105) by decide]
    refine lv_iload_n hx hb dL_cell_14 rfl (lv_at hl 1 rfl) ?_
    refine lv_iconst (v := zI 3) hx hb dL_cell_15 rfl ?_
    refine z_iadd hx hb dL_cell_16 ?_
    refine z_imul hx hb dL_cell_17 ?_
    exact W.iret (v := zI (790386105 * (k + 3))) hx hb hr (fun t9 ht hW => ⟨⟨_, (), rfl, ⟨_, rfl, trivial⟩, trivial⟩, vF_R ht hS.1 (fun x h9 => hS.2.1 x h9 (fun h => h))⟩) hS.2.2 dL_cell_18
  · skip
    refine lv_aload_n hx hb dL_cell_6 rfl (lv_at hl 0 rfl) ?_
    refine lv_iload_n hx hb dL_cell_7 rfl (lv_at hl 1 rfl) ?_
    refine va_sld hx hb hX hbl (fun h => h) hS (zI_in (by omega) (by omega) (by omega)) dL_cell_8 ?_
    refine z_topi (fun zc hzc _ => ?_)
    refine lv_goto (tgt := 18) hx hb dL_cell_9 (by decide) ?_
    exact W.iret (v := zI (zc)) hx hb hr (fun t9 ht hW => ⟨⟨_, (), rfl, ⟨_, rfl, trivial⟩, trivial⟩, vF_R ht hS.1 (fun x h9 => hS.2.1 x h9 (fun h => h))⟩) hS.2.2 dL_cell_18

set_option maxHeartbeats 4000000 in
set_option maxRecDepth 100000 in
/-- L_isHeld -/
theorem c_L_isHeld (l : Launch) (D : va_G) (cy : Nat → ClassId) (a q : Nat → Nat) (σ : Nat → Nat → Int) (sz : Nat) (hlT : l.stackTraces = false) (t0 : Int) (hO : okA t0 (σ 1 5) q σ) : Met l yL_isHeld wsL_isHeld ({ frames := 12, cells := 225, slots := 1350, locals := 600 }) (va_Pc [.ref (a 0)] (fun U => U.heap.size = sz ∧ Wd D cy a q σ U)) (va_Qi (fun (r : Int32) (_ : Unit) => r = zI (1)) (fun _ _ => True) (fun _ => False)) 225 1350 (wF a sz) := by
  refine Met.ofW (cc := cL_isHeld) (maxL := 4) (ret := (some .boolean)) (by decide) rfl ?_
  intro p e s m args below meth c s₁ B hml hpc0
  obtain ⟨rfl, hsz, hW0⟩ := hpc0
  have hx := B.exec
  have hb := B.bytes
  have hr := B.returns
  have hts := atoms_spec (ws := wsL_isHeld) B.pre
  have hown : s.vm.findClass RL = some m.cls := findClass_of_methodNamed B.named
  have hlocks := B.notSynchronized
  subst hsz
  obtain ⟨hP00, hE0⟩ := id hW0
  obtain ⟨hK, hinj, hU0, hN0, hstr, hnest⟩ := id hE0
  have hP : va_P D vwCl (wld cy a q σ ++ []) s.heap := by rw [List.append_nil]; exact hP00
  have hD : va_D (wF a s.heap.size) (wld cy a q σ ++ []) := wD_of hinj
  have hA : ∀ x : Nat, s.heap.size ≤ x → wF a s.heap.size x := fun _ h => Or.inr h
  have hS : va_S (wF a s.heap.size) s.heap s.heap [] := va_S.rf
  have hk0 : ∀ x : Nat, x < s.heap.size → s.heap[x]? = s.heap[x]? := fun _ _ => rfl
  have hl := lv_entry ([.ref (a 0)]) (n := 4) (Nat.le_of_ble_eq_true rfl)
  rw [lg_entry_eq]
  generalize (lg_sl ([.ref (a 0)]) ++ List.replicate (4 - (lg_sl ([.ref (a 0)])).length) Slot.unset).toArray = ls at hl ⊢
  have hl : lv_has ls 4 [(0, .ref (a 0))] := hl
  obtain ⟨oS, oW, oC, oZ, oM, oL, oP, oQ, oH⟩ := id hO
  unfold okS at oS; unfold okW at oW; unfold okL at oL
  refine lv_aload_n hx hb dL_isHeld_0 rfl (lv_at hl 0 rfl) ?_
  refine lv_iconst (v := zI 2) hx hb dL_isHeld_1 rfl ?_
  refine vx_calli (vx_runV (As := [.int (zI (2))]) (rest := []) ⟨hx, hb, hml, hown, hts⟩ (c_X7_site l hlT D cy a q σ s.heap.size (2) (by omega) _ _ hO) (cwV 1 hts gL_isHeld_X7_site rfl rfl rfl (by decide +kernel) ⟨Nat.le_of_ble_eq_true rfl, Nat.le_of_ble_eq_true rfl⟩) ⟨Wd_blind, va_recv hK hP (ci := 9) (q0 := 0) rfl wg_S, fun U hU hW => ⟨rfl, by rw [hU], Wd_mk (wP_left hP) hE0 hS hU hW⟩⟩ rfl rfl hl.1 rfl (lv_room (Nat.le_of_ble_eq_true rfl)) dL_isHeld_2 ⟨(show 0 + 1 ≤ 225 by omega), (show 0 + 6 ≤ 1350 by omega)⟩) hS (fun _ _ h => h.elim) (fun _ h => wF_mono hS.1 _ h) (fun _ _ h => h.elim) (fun E9 ce9 q9 u9 t9 H locs ht hvm hpx hE hz hk hS1 hce hcv hcl => ?_) (fun rv2 u9 t9 H locs ht hvm hw hB hz hk hS1 => ?_)
  · skip
    exact absurd hpx (by omega)
  · skip
    have hP := hP.kept (fun k x hk9 => hk x.1 ((hP k x hk9).lt) (fun h => h))
    have hk0 : ∀ x : Nat, x < s.heap.size → H[x]? = s.heap[x]? := fun x h9 => (hk x (Nat.lt_of_lt_of_le h9 hS.1) (fun h => h)).trans (hk0 x h9)
    have hS := hS1
    obtain rfl := hw
    rw [show siF q σ (2 : Int) = σ 1 5 from rfl]
    refine lv_bipush (v := zI 12) hx hb dL_isHeld_5 (by decide +kernel) ?_
    refine z_icmp_le (tgt := 14) hx hb dL_isHeld_7 (by decide) (by omega) (by omega) (fun cd7 => ?_) (fun cd7 => ?_)
    · skip
      refine lv_iconst (v := zI 0) hx hb dL_isHeld_14 rfl ?_
      refine lv_istore_n (lv' := [(1, .int (zI (0))), (0, .ref (a 0))]) hx hb dL_isHeld_15 rfl hl (by decide) rfl (fun ls hl => ?_)
      refine lv_iconst (v := zI 0) hx hb dL_isHeld_16 rfl ?_
      refine lv_istore_n (lv' := [(2, .int (zI (0))), (1, .int (zI (0))), (0, .ref (a 0))]) hx hb dL_isHeld_17 rfl hl (by decide) rfl (fun ls hl => ?_)
      have loop18 : ∀ (n : Nat) (i : Nat) (H : Heap) (locs : List Loc) (ls : Array Slot), 3 - i < n → ((i : Int) ≤ σ 0 5) → va_P D vwCl (wld cy a q σ ++ []) H → va_S (wF a s.heap.size) s.heap H locs → (∀ x : Nat, x < s.heap.size → H[x]? = s.heap[x]?) → lv_has ls 4 [(0, .ref (a 0)), (1, .int (zI (0))), (2, .int (zI ((i : Int))))] → W p l e (headSpec wsL_isHeld ({ frames := 12, cells := 225, slots := 1350, locals := 600 })).room s m ([.ref (a 0)] : List Value).toArray below meth c H locs (1 + i * 3) (6 + i * 18) (MQ below (va_Qi (fun (r : Int32) (_ : Unit) => r = zI (1)) (fun _ _ => True) (fun _ => False)) ([.ref (a 0)] : List Value).toArray s 225 1350 (wF a s.heap.size)) (F0 m 18 ls []) := by
        intro n
        induction n with
        | zero => intro i H locs ls h0; exact absurd h0 (Nat.not_lt_zero _)
        | succ n ih18 =>
          intro i H locs ls hms hi hP hS hk0 hl
          refine lv_iload_n hx hb dL_isHeld_18 rfl (lv_at hl 2 rfl) ?_
          refine lv_aload_n hx hb dL_isHeld_19 rfl (lv_at hl 0 rfl) ?_
          refine lv_bipush (v := zI 8) hx hb dL_isHeld_20 (by decide +kernel) ?_
          refine vx_calli (vx_runV (As := [.int (zI (8))]) (rest := [.int (zI ((i : Int)))]) ⟨hx, hb, hml, hown, hts⟩ (c_X7_site l hlT D cy a q σ H.size (8) (by omega) _ _ hO) (cwV 1 hts gL_isHeld_X7_site rfl rfl rfl (by decide +kernel) ⟨Nat.le_of_ble_eq_true rfl, Nat.le_of_ble_eq_true rfl⟩) ⟨Wd_blind, va_recv hK hP (ci := 9) (q0 := 0) rfl wg_S, fun U hU hW => ⟨rfl, by rw [hU], Wd_mk (wP_left hP) hE0 hS hU hW⟩⟩ rfl rfl hl.1 rfl (lv_room (Nat.le_of_ble_eq_true rfl)) dL_isHeld_22 ⟨(show 1 + i * 3 + 1 ≤ 225 by omega), (show 6 + i * 18 + 6 ≤ 1350 by omega)⟩) hS (fun _ _ h => h.elim) (fun _ h => wF_mono hS.1 _ h) (fun _ _ h => h.elim) (fun E9 ce9 q9 u9 t9 H locs ht hvm hpx hE hz hk hS1 hce hcv hcl => ?_) (fun rv22 u9 t9 H locs ht hvm hw hB hz hk hS1 => ?_)
          · skip
            exact absurd hpx (by omega)
          · skip
            have hP := hP.kept (fun k x hk9 => hk x.1 ((hP k x hk9).lt) (fun h => h))
            have hk0 : ∀ x : Nat, x < s.heap.size → H[x]? = s.heap[x]? := fun x h9 => (hk x (Nat.lt_of_lt_of_le h9 hS.1) (fun h => h)).trans (hk0 x h9)
            have hS := hS1
            obtain rfl := hw
            rw [show siF q σ (8 : Int) = σ 0 5 from rfl]
            refine z_icmp_ge (tgt := 50) hx hb dL_isHeld_25 (by decide) (by omega) (by omega) (fun cd25 => ?_) (fun cd25 => ?_)
            · skip
              refine lv_aload_n hx hb dL_isHeld_50 rfl (lv_at hl 0 rfl) ?_
              refine lv_bipush (v := zI 14) hx hb dL_isHeld_51 (by decide +kernel) ?_
              refine vx_calli (vx_runV (As := [.int (zI (14))]) (rest := []) ⟨hx, hb, hml, hown, hts⟩ (c_X7_site l hlT D cy a q σ H.size (14) (by omega) _ _ hO) (cwV 1 hts gL_isHeld_X7_site rfl rfl rfl (by decide +kernel) ⟨Nat.le_of_ble_eq_true rfl, Nat.le_of_ble_eq_true rfl⟩) ⟨Wd_blind, va_recv hK hP (ci := 9) (q0 := 0) rfl wg_S, fun U hU hW => ⟨rfl, by rw [hU], Wd_mk (wP_left hP) hE0 hS hU hW⟩⟩ rfl rfl hl.1 rfl (lv_room (Nat.le_of_ble_eq_true rfl)) dL_isHeld_53 ⟨(show 1 + i * 3 + 1 + 1 ≤ 225 by omega), (show 6 + i * 18 + 6 + 6 ≤ 1350 by omega)⟩) hS (fun _ _ h => h.elim) (fun _ h => wF_mono hS.1 _ h) (fun _ _ h => h.elim) (fun E9 ce9 q9 u9 t9 H locs ht hvm hpx hE hz hk hS1 hce hcv hcl => ?_) (fun rv53 u9 t9 H locs ht hvm hw hB hz hk hS1 => ?_)
              · skip
                exact absurd hpx (by omega)
              · skip
                have hP := hP.kept (fun k x hk9 => hk x.1 ((hP k x hk9).lt) (fun h => h))
                have hk0 : ∀ x : Nat, x < s.heap.size → H[x]? = s.heap[x]? := fun x h9 => (hk x (Nat.lt_of_lt_of_le h9 hS.1) (fun h => h)).trans (hk0 x h9)
                have hS := hS1
                obtain rfl := hw
                rw [show siF q σ (14 : Int) = (if σ 20 1 = σ 20 2 ∧ faF q σ = -1 then 1 else 0) from rfl]
                refine lv_iconst (v := zI 1) hx hb dL_isHeld_56 rfl ?_
                refine z_icmp_ne (tgt := 64) hx hb dL_isHeld_57 (by decide) (by omega) (by omega) (fun cd57 => ?_) (fun cd57 => ?_)
                · skip
                  refine lv_iconst (v := zI 0) hx hb dL_isHeld_64 rfl ?_
                  refine lv_istore_n (lv' := [(2, .int (zI (0))), (0, .ref (a 0)), (1, .int (zI (0)))]) hx hb dL_isHeld_65 rfl hl (by decide) rfl (fun ls hl => ?_)
                  refine lv_iconst (v := zI 0) hx hb dL_isHeld_66 rfl ?_
                  refine lv_istore_n (lv' := [(3, .int (zI (0))), (2, .int (zI (0))), (0, .ref (a 0)), (1, .int (zI (0)))]) hx hb dL_isHeld_67 rfl hl (by decide) rfl (fun ls hl => ?_)
                  have loop68 : ∀ (n : Nat) (i : Nat) (H : Heap) (locs : List Loc) (ls : Array Slot), 40 - i < n → ((i : Int) ≤ σ 20 1) → va_P D vwCl (wld cy a q σ ++ []) H → va_S (wF a s.heap.size) s.heap H locs → (∀ x : Nat, x < s.heap.size → H[x]? = s.heap[x]?) → lv_has ls 4 [(0, .ref (a 0)), (2, .int (zI (0))), (3, .int (zI ((i : Int))))] → W p l e (headSpec wsL_isHeld ({ frames := 12, cells := 225, slots := 1350, locals := 600 })).room s m ([.ref (a 0)] : List Value).toArray below meth c H locs (13 + i * 5) (78 + i * 30) (MQ below (va_Qi (fun (r : Int32) (_ : Unit) => r = zI (1)) (fun _ _ => True) (fun _ => False)) ([.ref (a 0)] : List Value).toArray s 225 1350 (wF a s.heap.size)) (F0 m 68 ls []) := by
                    intro n
                    induction n with
                    | zero => intro i H locs ls h0; exact absurd h0 (Nat.not_lt_zero _)
                    | succ n ih68 =>
                      intro i H locs ls hms hi hP hS hk0 hl
                      refine lv_iload_n hx hb dL_isHeld_68 rfl (lv_at hl 2 rfl) ?_
                      refine lv_aload_n hx hb dL_isHeld_69 rfl (lv_at hl 0 rfl) ?_
                      refine lv_bipush (v := zI 12) hx hb dL_isHeld_70 (by decide +kernel) ?_
                      refine vx_calli (vx_runV (As := [.int (zI (12))]) (rest := [.int (zI ((i : Int)))]) ⟨hx, hb, hml, hown, hts⟩ (c_X7_site l hlT D cy a q σ H.size (12) (by omega) _ _ hO) (cwV 1 hts gL_isHeld_X7_site rfl rfl rfl (by decide +kernel) ⟨Nat.le_of_ble_eq_true rfl, Nat.le_of_ble_eq_true rfl⟩) ⟨Wd_blind, va_recv hK hP (ci := 9) (q0 := 0) rfl wg_S, fun U hU hW => ⟨rfl, by rw [hU], Wd_mk (wP_left hP) hE0 hS hU hW⟩⟩ rfl rfl hl.1 rfl (lv_room (Nat.le_of_ble_eq_true rfl)) dL_isHeld_72 ⟨(show 13 + i * 5 + 1 ≤ 225 by omega), (show 78 + i * 30 + 6 ≤ 1350 by omega)⟩) hS (fun _ _ h => h.elim) (fun _ h => wF_mono hS.1 _ h) (fun _ _ h => h.elim) (fun E9 ce9 q9 u9 t9 H locs ht hvm hpx hE hz hk hS1 hce hcv hcl => ?_) (fun rv72 u9 t9 H locs ht hvm hw hB hz hk hS1 => ?_)
                      · skip
                        exact absurd hpx (by omega)
                      · skip
                        have hP := hP.kept (fun k x hk9 => hk x.1 ((hP k x hk9).lt) (fun h => h))
                        have hk0 : ∀ x : Nat, x < s.heap.size → H[x]? = s.heap[x]? := fun x h9 => (hk x (Nat.lt_of_lt_of_le h9 hS.1) (fun h => h)).trans (hk0 x h9)
                        have hS := hS1
                        obtain rfl := hw
                        rw [show siF q σ (12 : Int) = σ 20 1 from rfl]
                        refine z_icmp_ge (tgt := 124) hx hb dL_isHeld_75 (by decide) (by omega) (by omega) (fun cd75 => ?_) (fun cd75 => ?_)
                        · skip
                          refine lv_aload_n hx hb dL_isHeld_124 rfl (lv_at hl 0 rfl) ?_
                          refine va_calli (va_runV (As := []) (rest := []) ⟨hx, hb, hml, hown, hts⟩ (c_X7_isSound l D cy a q σ H.size _ hO) (cwV 0 hts gL_isHeld_X7_isSound rfl rfl rfl (by decide +kernel) ⟨Nat.le_of_ble_eq_true rfl, Nat.le_of_ble_eq_true rfl⟩) ⟨Wd_blind, va_recv hK hP (ci := 9) (q0 := 0) rfl wg_S, fun U hU hW => ⟨rfl, by rw [hU], Wd_mk (wP_left hP) hE0 hS hU hW⟩⟩ rfl rfl hl.1 rfl (lv_room (Nat.le_of_ble_eq_true rfl)) dL_isHeld_125 ⟨(show 13 + i * 5 + 1 + 0 ≤ 225 by omega), (show 78 + i * 30 + 6 + 0 ≤ 1350 by omega)⟩) hS (fun _ _ h => h.elim) (fun _ h => wF_mono hS.1 _ h) (fun rv125 u9 t9 H locs ht hvm hw hB hz hk hS1 => ?_)
                          have hP := hP.kept (fun k x hk9 => hk x.1 ((hP k x hk9).lt) (fun h => h))
                          have hk0 : ∀ x : Nat, x < s.heap.size → H[x]? = s.heap[x]? := fun x h9 => (hk x (Nat.lt_of_lt_of_le h9 hS.1) (fun h => h)).trans (hk0 x h9)
                          have hS := hS1
                          obtain rfl := hw
                          refine z_if_eq (tgt := 164) hx hb dL_isHeld_128 (by decide) (by decide) (fun cd128 => absurd cd128 (by decide)) (fun _ => ?_)
                          refine lv_iload_n hx hb dL_isHeld_131 rfl (lv_at hl 1 rfl) ?_
                          refine z_if_eq (tgt := 160) hx hb dL_isHeld_132 (by decide) (by decide) (fun _ => ?_) (fun cd132 => absurd cd132 (by decide))
                          refine lv_iconst (v := zI 1) hx hb dL_isHeld_160 rfl ?_
                          refine lv_goto (tgt := 165) hx hb dL_isHeld_161 (by decide) ?_
                          refine W.widen (k := 225) (n := 1350) (by omega) (by omega) ?_
                          exact W.zret (v := zI (1)) (ty := .boolean) hx hb hr (by decide +kernel) (fun t9 ht hW => ⟨⟨_, (), rfl, (by first | rfl | (congr 1; omega)), trivial⟩, vF_R ht hS.1 hk0⟩) hS.2.2 dL_isHeld_165
                        · skip
                          have hqi := oQ.1 i (by omega); have oPi := oP (q i) hqi; unfold okP at oPi
                          refine lv_iload_n hx hb dL_isHeld_78 rfl (lv_at hl 1 rfl) ?_
                          refine z_if_eq (tgt := 118) hx hb dL_isHeld_79 (by decide) (by decide) (fun _ => ?_) (fun cd79 => absurd cd79 (by decide))
                          refine lv_iinc (v := zI ((i : Int) + 1)) (lv' := [(3, .int (zI ((i : Int) + 1))), (0, .ref (a 0)), (2, .int (zI (0)))]) hx hb dL_isHeld_118 hl (k := 2) rfl (zI_add _ _) (by decide) rfl (fun ls hl => ?_)
                          refine lv_goto (tgt := 68) hx hb dL_isHeld_121 (by decide) ?_
                          refine W.widen (k := 13 + (i + 1) * 5) (n := 78 + (i + 1) * 30) (by omega) (by omega) ?_
                          exact ih68 (i + 1) H locs ls (by omega) (by omega)  hP hS hk0 (by have h9 := lv_sub hl [1, 2, 0] rfl; exact h9)
                  refine W.widen (k := 13 + 0 * 5) (n := 78 + 0 * 30) (by omega) (by omega) ?_
                  exact loop68 (41) 0 H locs ls (by omega) (by omega)  hP hS hk0 (lv_sub hl [2, 1, 0] rfl)
                · skip
                  refine lv_iconst (v := zI 1) hx hb dL_isHeld_60 rfl ?_
                  refine lv_goto (tgt := 65) hx hb dL_isHeld_61 (by decide) ?_
                  refine lv_istore_n (lv' := [(2, .int (zI (1))), (0, .ref (a 0)), (1, .int (zI (0)))]) hx hb dL_isHeld_65 rfl hl (by decide) rfl (fun ls hl => ?_)
                  refine lv_iconst (v := zI 0) hx hb dL_isHeld_66 rfl ?_
                  refine lv_istore_n (lv' := [(3, .int (zI (0))), (2, .int (zI (1))), (0, .ref (a 0)), (1, .int (zI (0)))]) hx hb dL_isHeld_67 rfl hl (by decide) rfl (fun ls hl => ?_)
                  have loop68 : ∀ (n : Nat) (i : Nat) (H : Heap) (locs : List Loc) (ls : Array Slot), 40 - i < n → ((i : Int) ≤ σ 20 1) → va_P D vwCl (wld cy a q σ ++ []) H → va_S (wF a s.heap.size) s.heap H locs → (∀ x : Nat, x < s.heap.size → H[x]? = s.heap[x]?) → lv_has ls 4 [(0, .ref (a 0)), (2, .int (zI (1))), (3, .int (zI ((i : Int))))] → W p l e (headSpec wsL_isHeld ({ frames := 12, cells := 225, slots := 1350, locals := 600 })).room s m ([.ref (a 0)] : List Value).toArray below meth c H locs (13 + i * 5) (78 + i * 30) (MQ below (va_Qi (fun (r : Int32) (_ : Unit) => r = zI (1)) (fun _ _ => True) (fun _ => False)) ([.ref (a 0)] : List Value).toArray s 225 1350 (wF a s.heap.size)) (F0 m 68 ls []) := by
                    intro n
                    induction n with
                    | zero => intro i H locs ls h0; exact absurd h0 (Nat.not_lt_zero _)
                    | succ n ih68 =>
                      intro i H locs ls hms hi hP hS hk0 hl
                      refine lv_iload_n hx hb dL_isHeld_68 rfl (lv_at hl 2 rfl) ?_
                      refine lv_aload_n hx hb dL_isHeld_69 rfl (lv_at hl 0 rfl) ?_
                      refine lv_bipush (v := zI 12) hx hb dL_isHeld_70 (by decide +kernel) ?_
                      refine vx_calli (vx_runV (As := [.int (zI (12))]) (rest := [.int (zI ((i : Int)))]) ⟨hx, hb, hml, hown, hts⟩ (c_X7_site l hlT D cy a q σ H.size (12) (by omega) _ _ hO) (cwV 1 hts gL_isHeld_X7_site rfl rfl rfl (by decide +kernel) ⟨Nat.le_of_ble_eq_true rfl, Nat.le_of_ble_eq_true rfl⟩) ⟨Wd_blind, va_recv hK hP (ci := 9) (q0 := 0) rfl wg_S, fun U hU hW => ⟨rfl, by rw [hU], Wd_mk (wP_left hP) hE0 hS hU hW⟩⟩ rfl rfl hl.1 rfl (lv_room (Nat.le_of_ble_eq_true rfl)) dL_isHeld_72 ⟨(show 13 + i * 5 + 1 ≤ 225 by omega), (show 78 + i * 30 + 6 ≤ 1350 by omega)⟩) hS (fun _ _ h => h.elim) (fun _ h => wF_mono hS.1 _ h) (fun _ _ h => h.elim) (fun E9 ce9 q9 u9 t9 H locs ht hvm hpx hE hz hk hS1 hce hcv hcl => ?_) (fun rv72 u9 t9 H locs ht hvm hw hB hz hk hS1 => ?_)
                      · skip
                        exact absurd hpx (by omega)
                      · skip
                        have hP := hP.kept (fun k x hk9 => hk x.1 ((hP k x hk9).lt) (fun h => h))
                        have hk0 : ∀ x : Nat, x < s.heap.size → H[x]? = s.heap[x]? := fun x h9 => (hk x (Nat.lt_of_lt_of_le h9 hS.1) (fun h => h)).trans (hk0 x h9)
                        have hS := hS1
                        obtain rfl := hw
                        rw [show siF q σ (12 : Int) = σ 20 1 from rfl]
                        refine z_icmp_ge (tgt := 124) hx hb dL_isHeld_75 (by decide) (by omega) (by omega) (fun cd75 => ?_) (fun cd75 => ?_)
                        · skip
                          refine lv_aload_n hx hb dL_isHeld_124 rfl (lv_at hl 0 rfl) ?_
                          refine va_calli (va_runV (As := []) (rest := []) ⟨hx, hb, hml, hown, hts⟩ (c_X7_isSound l D cy a q σ H.size _ hO) (cwV 0 hts gL_isHeld_X7_isSound rfl rfl rfl (by decide +kernel) ⟨Nat.le_of_ble_eq_true rfl, Nat.le_of_ble_eq_true rfl⟩) ⟨Wd_blind, va_recv hK hP (ci := 9) (q0 := 0) rfl wg_S, fun U hU hW => ⟨rfl, by rw [hU], Wd_mk (wP_left hP) hE0 hS hU hW⟩⟩ rfl rfl hl.1 rfl (lv_room (Nat.le_of_ble_eq_true rfl)) dL_isHeld_125 ⟨(show 13 + i * 5 + 1 + 0 ≤ 225 by omega), (show 78 + i * 30 + 6 + 0 ≤ 1350 by omega)⟩) hS (fun _ _ h => h.elim) (fun _ h => wF_mono hS.1 _ h) (fun rv125 u9 t9 H locs ht hvm hw hB hz hk hS1 => ?_)
                          have hP := hP.kept (fun k x hk9 => hk x.1 ((hP k x hk9).lt) (fun h => h))
                          have hk0 : ∀ x : Nat, x < s.heap.size → H[x]? = s.heap[x]? := fun x h9 => (hk x (Nat.lt_of_lt_of_le h9 hS.1) (fun h => h)).trans (hk0 x h9)
                          have hS := hS1
                          obtain rfl := hw
                          refine z_if_eq (tgt := 164) hx hb dL_isHeld_128 (by decide) (by decide) (fun cd128 => absurd cd128 (by decide)) (fun _ => ?_)
                          refine lv_iload_n hx hb dL_isHeld_131 rfl (lv_at hl 1 rfl) ?_
                          refine z_if_eq (tgt := 160) hx hb dL_isHeld_132 (by decide) (by decide) (fun cd132 => absurd cd132 (by decide)) (fun _ => ?_)
                          refine lv_aload_n hx hb dL_isHeld_135 rfl (lv_at hl 0 rfl) ?_
                          refine lv_bipush (v := zI 12) hx hb dL_isHeld_136 (by decide +kernel) ?_
                          refine vx_calli (vx_runV (As := [.int (zI (12))]) (rest := []) ⟨hx, hb, hml, hown, hts⟩ (c_X7_site l hlT D cy a q σ H.size (12) (by omega) _ _ hO) (cwV 1 hts gL_isHeld_X7_site rfl rfl rfl (by decide +kernel) ⟨Nat.le_of_ble_eq_true rfl, Nat.le_of_ble_eq_true rfl⟩) ⟨Wd_blind, va_recv hK hP (ci := 9) (q0 := 0) rfl wg_S, fun U hU hW => ⟨rfl, by rw [hU], Wd_mk (wP_left hP) hE0 hS hU hW⟩⟩ rfl rfl hl.1 rfl (lv_room (Nat.le_of_ble_eq_true rfl)) dL_isHeld_138 ⟨(show 13 + i * 5 + 1 + 0 + 1 ≤ 225 by omega), (show 78 + i * 30 + 6 + 0 + 6 ≤ 1350 by omega)⟩) hS (fun _ _ h => h.elim) (fun _ h => wF_mono hS.1 _ h) (fun _ _ h => h.elim) (fun E9 ce9 q9 u9 t9 H locs ht hvm hpx hE hz hk hS1 hce hcv hcl => ?_) (fun rv138 u9 t9 H locs ht hvm hw hB hz hk hS1 => ?_)
                          · skip
                            exact absurd hpx (by omega)
                          · skip
                            have hP := hP.kept (fun k x hk9 => hk x.1 ((hP k x hk9).lt) (fun h => h))
                            have hk0 : ∀ x : Nat, x < s.heap.size → H[x]? = s.heap[x]? := fun x h9 => (hk x (Nat.lt_of_lt_of_le h9 hS.1) (fun h => h)).trans (hk0 x h9)
                            have hS := hS1
                            obtain rfl := hw
                            rw [show siF q σ (12 : Int) = σ 20 1 from rfl]
                            refine lv_aload_n hx hb dL_isHeld_141 rfl (lv_at hl 0 rfl) ?_
                            refine lv_bipush (v := zI 13) hx hb dL_isHeld_142 (by decide +kernel) ?_
                            refine vx_calli (vx_runV (As := [.int (zI (13))]) (rest := [.int (zI (σ 20 1))]) ⟨hx, hb, hml, hown, hts⟩ (c_X7_site l hlT D cy a q σ H.size (13) (by omega) _ _ hO) (cwV 1 hts gL_isHeld_X7_site rfl rfl rfl (by decide +kernel) ⟨Nat.le_of_ble_eq_true rfl, Nat.le_of_ble_eq_true rfl⟩) ⟨Wd_blind, va_recv hK hP (ci := 9) (q0 := 0) rfl wg_S, fun U hU hW => ⟨rfl, by rw [hU], Wd_mk (wP_left hP) hE0 hS hU hW⟩⟩ rfl rfl hl.1 rfl (lv_room (Nat.le_of_ble_eq_true rfl)) dL_isHeld_144 ⟨(show 13 + i * 5 + 1 + 0 + 1 + 1 ≤ 225 by omega), (show 78 + i * 30 + 6 + 0 + 6 + 6 ≤ 1350 by omega)⟩) hS (fun _ _ h => h.elim) (fun _ h => wF_mono hS.1 _ h) (fun _ _ h => h.elim) (fun E9 ce9 q9 u9 t9 H locs ht hvm hpx hE hz hk hS1 hce hcv hcl => ?_) (fun rv144 u9 t9 H locs ht hvm hw hB hz hk hS1 => ?_)
                            · skip
                              exact absurd hpx (by omega)
                            · skip
                              have hP := hP.kept (fun k x hk9 => hk x.1 ((hP k x hk9).lt) (fun h => h))
                              have hk0 : ∀ x : Nat, x < s.heap.size → H[x]? = s.heap[x]? := fun x h9 => (hk x (Nat.lt_of_lt_of_le h9 hS.1) (fun h => h)).trans (hk0 x h9)
                              have hS := hS1
                              obtain rfl := hw
                              rw [show siF q σ (13 : Int) = σ 20 2 from rfl]
                              refine z_icmp_ne (tgt := 164) hx hb dL_isHeld_147 (by decide) (by omega) (by omega) (fun cd147 => ?_) (fun cd147 => ?_)
                              · skip
                                refine lv_iconst (v := zI 0) hx hb dL_isHeld_164 rfl ?_
                                refine W.widen (k := 225) (n := 1350) (by omega) (by omega) ?_
                                exact W.zret (v := zI (0)) (ty := .boolean) hx hb hr (by decide +kernel) (fun t9 ht hW => ⟨⟨_, (), rfl, (by first | rfl | (congr 1; omega)), trivial⟩, vF_R ht hS.1 hk0⟩) hS.2.2 dL_isHeld_165
                              · skip
                                refine lv_aload_n hx hb dL_isHeld_150 rfl (lv_at hl 0 rfl) ?_
                                refine lv_bipush (v := zI 15) hx hb dL_isHeld_151 (by decide +kernel) ?_
                                refine vx_calli (vx_runV (As := [.int (zI (15))]) (rest := []) ⟨hx, hb, hml, hown, hts⟩ (c_X7_site l hlT D cy a q σ H.size (15) (by omega) _ _ hO) (cwV 1 hts gL_isHeld_X7_site rfl rfl rfl (by decide +kernel) ⟨Nat.le_of_ble_eq_true rfl, Nat.le_of_ble_eq_true rfl⟩) ⟨Wd_blind, va_recv hK hP (ci := 9) (q0 := 0) rfl wg_S, fun U hU hW => ⟨rfl, by rw [hU], Wd_mk (wP_left hP) hE0 hS hU hW⟩⟩ rfl rfl hl.1 rfl (lv_room (Nat.le_of_ble_eq_true rfl)) dL_isHeld_153 ⟨(show 13 + i * 5 + 1 + 0 + 1 + 1 + 1 ≤ 225 by omega), (show 78 + i * 30 + 6 + 0 + 6 + 6 + 6 ≤ 1350 by omega)⟩) hS (fun _ _ h => h.elim) (fun _ h => wF_mono hS.1 _ h) (fun _ _ h => h.elim) (fun E9 ce9 q9 u9 t9 H locs ht hvm hpx hE hz hk hS1 hce hcv hcl => ?_) (fun rv153 u9 t9 H locs ht hvm hw hB hz hk hS1 => ?_)
                                · skip
                                  exact absurd hpx (by omega)
                                · skip
                                  have hP := hP.kept (fun k x hk9 => hk x.1 ((hP k x hk9).lt) (fun h => h))
                                  have hk0 : ∀ x : Nat, x < s.heap.size → H[x]? = s.heap[x]? := fun x h9 => (hk x (Nat.lt_of_lt_of_le h9 hS.1) (fun h => h)).trans (hk0 x h9)
                                  have hS := hS1
                                  obtain rfl := hw
                                  rw [show siF q σ (15 : Int) = faF q σ from rfl]
                                  refine lv_iconst (v := zI (-1)) hx hb dL_isHeld_156 rfl ?_
                                  refine z_icmp_ne (tgt := 164) hx hb dL_isHeld_157 (by decide) (by omega) (by omega) (fun cd157 => ?_) (fun cd157 => ?_)
                                  · skip
                                    refine lv_iconst (v := zI 0) hx hb dL_isHeld_164 rfl ?_
                                    refine W.widen (k := 225) (n := 1350) (by omega) (by omega) ?_
                                    exact W.zret (v := zI (0)) (ty := .boolean) hx hb hr (by decide +kernel) (fun t9 ht hW => ⟨⟨_, (), rfl, (by first | rfl | (congr 1; omega)), trivial⟩, vF_R ht hS.1 hk0⟩) hS.2.2 dL_isHeld_165
                                  · skip
                                    refine lv_iconst (v := zI 1) hx hb dL_isHeld_160 rfl ?_
                                    refine lv_goto (tgt := 165) hx hb dL_isHeld_161 (by decide) ?_
                                    refine W.widen (k := 225) (n := 1350) (by omega) (by omega) ?_
                                    exact W.zret (v := zI (1)) (ty := .boolean) hx hb hr (by decide +kernel) (fun t9 ht hW => ⟨⟨_, (), rfl, (by first | rfl | (congr 1; omega)), trivial⟩, vF_R ht hS.1 hk0⟩) hS.2.2 dL_isHeld_165
                        · skip
                          have hqi := oQ.1 i (by omega); have oPi := oP (q i) hqi; unfold okP at oPi
                          refine lv_iload_n hx hb dL_isHeld_78 rfl (lv_at hl 1 rfl) ?_
                          refine z_if_eq (tgt := 118) hx hb dL_isHeld_79 (by decide) (by decide) (fun cd79 => absurd cd79 (by decide)) (fun _ => ?_)
                          refine lv_aload_n hx hb dL_isHeld_82 rfl (lv_at hl 0 rfl) ?_
                          refine lv_iload_n hx hb dL_isHeld_83 rfl (lv_at hl 2 rfl) ?_
                          refine lv_iconst (v := zI 0) hx hb dL_isHeld_84 rfl ?_
                          refine vx_calli (vx_runV (As := [.int (zI ((i : Int))), .int (zI (0))]) (rest := []) ⟨hx, hb, hml, hown, hts⟩ (c_X7_page l hlT D cy a q σ H.size ((i : Int)) (by omega) (0) (by omega) _ _ hO) (cwV 2 hts gL_isHeld_X7_page rfl rfl rfl (by decide +kernel) ⟨Nat.le_of_ble_eq_true rfl, Nat.le_of_ble_eq_true rfl⟩) ⟨Wd_blind, va_recv hK hP (ci := 9) (q0 := 0) rfl wg_S, fun U hU hW => ⟨rfl, by rw [hU], Wd_mk (wP_left hP) hE0 hS hU hW⟩⟩ rfl rfl hl.1 rfl (lv_room (Nat.le_of_ble_eq_true rfl)) dL_isHeld_85 ⟨(show 13 + i * 5 + 1 + 1 ≤ 225 by omega), (show 78 + i * 30 + 6 + 6 ≤ 1350 by omega)⟩) hS (fun _ _ h => h.elim) (fun _ h => wF_mono hS.1 _ h) (fun _ _ h => h.elim) (fun E9 ce9 q9 u9 t9 H locs ht hvm hpx hE hz hk hS1 hce hcv hcl => ?_) (fun rv85 u9 t9 H locs ht hvm hw hB hz hk hS1 => ?_)
                          · skip
                            exact absurd hpx (by omega)
                          · skip
                            have hP := hP.kept (fun k x hk9 => hk x.1 ((hP k x hk9).lt) (fun h => h))
                            have hk0 : ∀ x : Nat, x < s.heap.size → H[x]? = s.heap[x]? := fun x h9 => (hk x (Nat.lt_of_lt_of_le h9 hS.1) (fun h => h)).trans (hk0 x h9)
                            have hS := hS1
                            obtain rfl := hw
                            rw [show σ (22 + q (i : Int).toNat) (0 : Int).toNat = σ (22 + q i) 0 from rfl]
                            refine z_if_ne (tgt := 118) hx hb dL_isHeld_88 (by decide) (by omega) (fun cd88 => ?_) (fun cd88 => ?_)
                            · skip
                              refine lv_iinc (v := zI ((i : Int) + 1)) (lv' := [(3, .int (zI ((i : Int) + 1))), (0, .ref (a 0)), (2, .int (zI (1)))]) hx hb dL_isHeld_118 hl (k := 2) rfl (zI_add _ _) (by decide) rfl (fun ls hl => ?_)
                              refine lv_goto (tgt := 68) hx hb dL_isHeld_121 (by decide) ?_
                              refine W.widen (k := 13 + (i + 1) * 5) (n := 78 + (i + 1) * 30) (by omega) (by omega) ?_
                              exact ih68 (i + 1) H locs ls (by omega) (by omega)  hP hS hk0 (by have h9 := lv_sub hl [1, 2, 0] rfl; exact h9)
                            · skip
                              refine lv_aload_n hx hb dL_isHeld_91 rfl (lv_at hl 0 rfl) ?_
                              refine lv_iload_n hx hb dL_isHeld_92 rfl (lv_at hl 2 rfl) ?_
                              refine lv_iconst (v := zI 4) hx hb dL_isHeld_93 rfl ?_
                              refine vx_calli (vx_runV (As := [.int (zI ((i : Int))), .int (zI (4))]) (rest := []) ⟨hx, hb, hml, hown, hts⟩ (c_X7_page l hlT D cy a q σ H.size ((i : Int)) (by omega) (4) (by omega) _ _ hO) (cwV 2 hts gL_isHeld_X7_page rfl rfl rfl (by decide +kernel) ⟨Nat.le_of_ble_eq_true rfl, Nat.le_of_ble_eq_true rfl⟩) ⟨Wd_blind, va_recv hK hP (ci := 9) (q0 := 0) rfl wg_S, fun U hU hW => ⟨rfl, by rw [hU], Wd_mk (wP_left hP) hE0 hS hU hW⟩⟩ rfl rfl hl.1 rfl (lv_room (Nat.le_of_ble_eq_true rfl)) dL_isHeld_94 ⟨(show 13 + i * 5 + 1 + 1 + 1 ≤ 225 by omega), (show 78 + i * 30 + 6 + 6 + 6 ≤ 1350 by omega)⟩) hS (fun _ _ h => h.elim) (fun _ h => wF_mono hS.1 _ h) (fun _ _ h => h.elim) (fun E9 ce9 q9 u9 t9 H locs ht hvm hpx hE hz hk hS1 hce hcv hcl => ?_) (fun rv94 u9 t9 H locs ht hvm hw hB hz hk hS1 => ?_)
                              · skip
                                exact absurd hpx (by omega)
                              · skip
                                have hP := hP.kept (fun k x hk9 => hk x.1 ((hP k x hk9).lt) (fun h => h))
                                have hk0 : ∀ x : Nat, x < s.heap.size → H[x]? = s.heap[x]? := fun x h9 => (hk x (Nat.lt_of_lt_of_le h9 hS.1) (fun h => h)).trans (hk0 x h9)
                                have hS := hS1
                                obtain rfl := hw
                                rw [show σ (22 + q (i : Int).toNat) (4 : Int).toNat = σ (22 + q i) 4 from rfl]
                                refine z_if_ne (tgt := 118) hx hb dL_isHeld_97 (by decide) (by omega) (fun cd97 => ?_) (fun cd97 => ?_)
                                · skip
                                  refine lv_iinc (v := zI ((i : Int) + 1)) (lv' := [(3, .int (zI ((i : Int) + 1))), (0, .ref (a 0)), (2, .int (zI (1)))]) hx hb dL_isHeld_118 hl (k := 2) rfl (zI_add _ _) (by decide) rfl (fun ls hl => ?_)
                                  refine lv_goto (tgt := 68) hx hb dL_isHeld_121 (by decide) ?_
                                  refine W.widen (k := 13 + (i + 1) * 5) (n := 78 + (i + 1) * 30) (by omega) (by omega) ?_
                                  exact ih68 (i + 1) H locs ls (by omega) (by omega)  hP hS hk0 (by have h9 := lv_sub hl [1, 2, 0] rfl; exact h9)
                                · skip
                                  refine lv_aload_n hx hb dL_isHeld_100 rfl (lv_at hl 0 rfl) ?_
                                  refine lv_iload_n hx hb dL_isHeld_101 rfl (lv_at hl 2 rfl) ?_
                                  refine lv_iconst (v := zI 3) hx hb dL_isHeld_102 rfl ?_
                                  refine vx_calli (vx_runV (As := [.int (zI ((i : Int))), .int (zI (3))]) (rest := []) ⟨hx, hb, hml, hown, hts⟩ (c_X7_page l hlT D cy a q σ H.size ((i : Int)) (by omega) (3) (by omega) _ _ hO) (cwV 2 hts gL_isHeld_X7_page rfl rfl rfl (by decide +kernel) ⟨Nat.le_of_ble_eq_true rfl, Nat.le_of_ble_eq_true rfl⟩) ⟨Wd_blind, va_recv hK hP (ci := 9) (q0 := 0) rfl wg_S, fun U hU hW => ⟨rfl, by rw [hU], Wd_mk (wP_left hP) hE0 hS hU hW⟩⟩ rfl rfl hl.1 rfl (lv_room (Nat.le_of_ble_eq_true rfl)) dL_isHeld_103 ⟨(show 13 + i * 5 + 1 + 1 + 1 + 1 ≤ 225 by omega), (show 78 + i * 30 + 6 + 6 + 6 + 6 ≤ 1350 by omega)⟩) hS (fun _ _ h => h.elim) (fun _ h => wF_mono hS.1 _ h) (fun _ _ h => h.elim) (fun E9 ce9 q9 u9 t9 H locs ht hvm hpx hE hz hk hS1 hce hcv hcl => ?_) (fun rv103 u9 t9 H locs ht hvm hw hB hz hk hS1 => ?_)
                                  · skip
                                    exact absurd hpx (by omega)
                                  · skip
                                    have hP := hP.kept (fun k x hk9 => hk x.1 ((hP k x hk9).lt) (fun h => h))
                                    have hk0 : ∀ x : Nat, x < s.heap.size → H[x]? = s.heap[x]? := fun x h9 => (hk x (Nat.lt_of_lt_of_le h9 hS.1) (fun h => h)).trans (hk0 x h9)
                                    have hS := hS1
                                    obtain rfl := hw
                                    rw [show σ (22 + q (i : Int).toNat) (3 : Int).toNat = σ (22 + q i) 3 from rfl]
                                    refine lv_aload_n hx hb dL_isHeld_106 rfl (lv_at hl 0 rfl) ?_
                                    refine lv_iload_n hx hb dL_isHeld_107 rfl (lv_at hl 2 rfl) ?_
                                    refine lv_bipush (v := zI 6) hx hb dL_isHeld_108 (by decide +kernel) ?_
                                    refine vx_calli (vx_runV (As := [.int (zI ((i : Int))), .int (zI (6))]) (rest := [.int (zI (σ (22 + q i) 3))]) ⟨hx, hb, hml, hown, hts⟩ (c_X7_page l hlT D cy a q σ H.size ((i : Int)) (by omega) (6) (by omega) _ _ hO) (cwV 2 hts gL_isHeld_X7_page rfl rfl rfl (by decide +kernel) ⟨Nat.le_of_ble_eq_true rfl, Nat.le_of_ble_eq_true rfl⟩) ⟨Wd_blind, va_recv hK hP (ci := 9) (q0 := 0) rfl wg_S, fun U hU hW => ⟨rfl, by rw [hU], Wd_mk (wP_left hP) hE0 hS hU hW⟩⟩ rfl rfl hl.1 rfl (lv_room (Nat.le_of_ble_eq_true rfl)) dL_isHeld_110 ⟨(show 13 + i * 5 + 1 + 1 + 1 + 1 + 1 ≤ 225 by omega), (show 78 + i * 30 + 6 + 6 + 6 + 6 + 6 ≤ 1350 by omega)⟩) hS (fun _ _ h => h.elim) (fun _ h => wF_mono hS.1 _ h) (fun _ _ h => h.elim) (fun E9 ce9 q9 u9 t9 H locs ht hvm hpx hE hz hk hS1 hce hcv hcl => ?_) (fun rv110 u9 t9 H locs ht hvm hw hB hz hk hS1 => ?_)
                                    · skip
                                      exact absurd hpx (by omega)
                                    · skip
                                      have hP := hP.kept (fun k x hk9 => hk x.1 ((hP k x hk9).lt) (fun h => h))
                                      have hk0 : ∀ x : Nat, x < s.heap.size → H[x]? = s.heap[x]? := fun x h9 => (hk x (Nat.lt_of_lt_of_le h9 hS.1) (fun h => h)).trans (hk0 x h9)
                                      have hS := hS1
                                      obtain rfl := hw
                                      rw [show σ (22 + q (i : Int).toNat) (6 : Int).toNat = σ (22 + q i) 6 from rfl]
                                      refine z_icmp_le (tgt := 118) hx hb dL_isHeld_113 (by decide) (by omega) (by omega) (fun cd113 => ?_) (fun cd113 => ?_)
                                      · skip
                                        refine lv_iinc (v := zI ((i : Int) + 1)) (lv' := [(3, .int (zI ((i : Int) + 1))), (0, .ref (a 0)), (2, .int (zI (1)))]) hx hb dL_isHeld_118 hl (k := 2) rfl (zI_add _ _) (by decide) rfl (fun ls hl => ?_)
                                        refine lv_goto (tgt := 68) hx hb dL_isHeld_121 (by decide) ?_
                                        refine W.widen (k := 13 + (i + 1) * 5) (n := 78 + (i + 1) * 30) (by omega) (by omega) ?_
                                        exact ih68 (i + 1) H locs ls (by omega) (by omega)  hP hS hk0 (by have h9 := lv_sub hl [1, 2, 0] rfl; exact h9)
                                      · skip
                                        refine lv_iconst (v := zI 0) hx hb dL_isHeld_116 rfl ?_
                                        refine W.widen (k := 225) (n := 1350) (by omega) (by omega) ?_
                                        exact W.zret (v := zI (0)) (ty := .boolean) hx hb hr (by decide +kernel) (fun t9 ht hW => ⟨⟨_, (), rfl, (by first | rfl | (congr 1; omega)), trivial⟩, vF_R ht hS.1 hk0⟩) hS.2.2 dL_isHeld_117
                  refine W.widen (k := 13 + 0 * 5) (n := 78 + 0 * 30) (by omega) (by omega) ?_
                  exact loop68 (41) 0 H locs ls (by omega) (by omega)  hP hS hk0 (lv_sub hl [2, 1, 0] rfl)
            · skip
              have oCi := oC i (by omega); unfold okC at oCi
              refine lv_iload_n hx hb dL_isHeld_28 rfl (lv_at hl 1 rfl) ?_
              refine z_if_eq (tgt := 44) hx hb dL_isHeld_29 (by decide) (by decide) (fun _ => ?_) (fun cd29 => absurd cd29 (by decide))
              refine lv_iinc (v := zI ((i : Int) + 1)) (lv' := [(2, .int (zI ((i : Int) + 1))), (0, .ref (a 0)), (1, .int (zI (0)))]) hx hb dL_isHeld_44 hl (k := 2) rfl (zI_add _ _) (by decide) rfl (fun ls hl => ?_)
              refine lv_goto (tgt := 18) hx hb dL_isHeld_47 (by decide) ?_
              refine W.widen (k := 1 + (i + 1) * 3) (n := 6 + (i + 1) * 18) (by omega) (by omega) ?_
              exact ih18 (i + 1) H locs ls (by omega) (by omega)  hP hS hk0 (by have h9 := lv_sub hl [1, 2, 0] rfl; exact h9)
      refine W.widen (k := 1 + 0 * 3) (n := 6 + 0 * 18) (by omega) (by omega) ?_
      exact loop18 (4) 0 H locs ls (by omega) (by omega)  hP hS hk0 (lv_sub hl [2, 1, 0] rfl)
    · skip
      refine lv_iconst (v := zI 1) hx hb dL_isHeld_10 rfl ?_
      refine lv_goto (tgt := 15) hx hb dL_isHeld_11 (by decide) ?_
      refine lv_istore_n (lv' := [(1, .int (zI (1))), (0, .ref (a 0))]) hx hb dL_isHeld_15 rfl hl (by decide) rfl (fun ls hl => ?_)
      refine lv_iconst (v := zI 0) hx hb dL_isHeld_16 rfl ?_
      refine lv_istore_n (lv' := [(2, .int (zI (0))), (1, .int (zI (1))), (0, .ref (a 0))]) hx hb dL_isHeld_17 rfl hl (by decide) rfl (fun ls hl => ?_)
      have loop18 : ∀ (n : Nat) (i : Nat) (H : Heap) (locs : List Loc) (ls : Array Slot), 3 - i < n → ((i : Int) ≤ σ 0 5) → va_P D vwCl (wld cy a q σ ++ []) H → va_S (wF a s.heap.size) s.heap H locs → (∀ x : Nat, x < s.heap.size → H[x]? = s.heap[x]?) → lv_has ls 4 [(0, .ref (a 0)), (1, .int (zI (1))), (2, .int (zI ((i : Int))))] → W p l e (headSpec wsL_isHeld ({ frames := 12, cells := 225, slots := 1350, locals := 600 })).room s m ([.ref (a 0)] : List Value).toArray below meth c H locs (1 + i * 3) (6 + i * 18) (MQ below (va_Qi (fun (r : Int32) (_ : Unit) => r = zI (1)) (fun _ _ => True) (fun _ => False)) ([.ref (a 0)] : List Value).toArray s 225 1350 (wF a s.heap.size)) (F0 m 18 ls []) := by
        intro n
        induction n with
        | zero => intro i H locs ls h0; exact absurd h0 (Nat.not_lt_zero _)
        | succ n ih18 =>
          intro i H locs ls hms hi hP hS hk0 hl
          refine lv_iload_n hx hb dL_isHeld_18 rfl (lv_at hl 2 rfl) ?_
          refine lv_aload_n hx hb dL_isHeld_19 rfl (lv_at hl 0 rfl) ?_
          refine lv_bipush (v := zI 8) hx hb dL_isHeld_20 (by decide +kernel) ?_
          refine vx_calli (vx_runV (As := [.int (zI (8))]) (rest := [.int (zI ((i : Int)))]) ⟨hx, hb, hml, hown, hts⟩ (c_X7_site l hlT D cy a q σ H.size (8) (by omega) _ _ hO) (cwV 1 hts gL_isHeld_X7_site rfl rfl rfl (by decide +kernel) ⟨Nat.le_of_ble_eq_true rfl, Nat.le_of_ble_eq_true rfl⟩) ⟨Wd_blind, va_recv hK hP (ci := 9) (q0 := 0) rfl wg_S, fun U hU hW => ⟨rfl, by rw [hU], Wd_mk (wP_left hP) hE0 hS hU hW⟩⟩ rfl rfl hl.1 rfl (lv_room (Nat.le_of_ble_eq_true rfl)) dL_isHeld_22 ⟨(show 1 + i * 3 + 1 ≤ 225 by omega), (show 6 + i * 18 + 6 ≤ 1350 by omega)⟩) hS (fun _ _ h => h.elim) (fun _ h => wF_mono hS.1 _ h) (fun _ _ h => h.elim) (fun E9 ce9 q9 u9 t9 H locs ht hvm hpx hE hz hk hS1 hce hcv hcl => ?_) (fun rv22 u9 t9 H locs ht hvm hw hB hz hk hS1 => ?_)
          · skip
            exact absurd hpx (by omega)
          · skip
            have hP := hP.kept (fun k x hk9 => hk x.1 ((hP k x hk9).lt) (fun h => h))
            have hk0 : ∀ x : Nat, x < s.heap.size → H[x]? = s.heap[x]? := fun x h9 => (hk x (Nat.lt_of_lt_of_le h9 hS.1) (fun h => h)).trans (hk0 x h9)
            have hS := hS1
            obtain rfl := hw
            rw [show siF q σ (8 : Int) = σ 0 5 from rfl]
            refine z_icmp_ge (tgt := 50) hx hb dL_isHeld_25 (by decide) (by omega) (by omega) (fun cd25 => ?_) (fun cd25 => ?_)
            · skip
              refine lv_aload_n hx hb dL_isHeld_50 rfl (lv_at hl 0 rfl) ?_
              refine lv_bipush (v := zI 14) hx hb dL_isHeld_51 (by decide +kernel) ?_
              refine vx_calli (vx_runV (As := [.int (zI (14))]) (rest := []) ⟨hx, hb, hml, hown, hts⟩ (c_X7_site l hlT D cy a q σ H.size (14) (by omega) _ _ hO) (cwV 1 hts gL_isHeld_X7_site rfl rfl rfl (by decide +kernel) ⟨Nat.le_of_ble_eq_true rfl, Nat.le_of_ble_eq_true rfl⟩) ⟨Wd_blind, va_recv hK hP (ci := 9) (q0 := 0) rfl wg_S, fun U hU hW => ⟨rfl, by rw [hU], Wd_mk (wP_left hP) hE0 hS hU hW⟩⟩ rfl rfl hl.1 rfl (lv_room (Nat.le_of_ble_eq_true rfl)) dL_isHeld_53 ⟨(show 1 + i * 3 + 1 + 1 ≤ 225 by omega), (show 6 + i * 18 + 6 + 6 ≤ 1350 by omega)⟩) hS (fun _ _ h => h.elim) (fun _ h => wF_mono hS.1 _ h) (fun _ _ h => h.elim) (fun E9 ce9 q9 u9 t9 H locs ht hvm hpx hE hz hk hS1 hce hcv hcl => ?_) (fun rv53 u9 t9 H locs ht hvm hw hB hz hk hS1 => ?_)
              · skip
                exact absurd hpx (by omega)
              · skip
                have hP := hP.kept (fun k x hk9 => hk x.1 ((hP k x hk9).lt) (fun h => h))
                have hk0 : ∀ x : Nat, x < s.heap.size → H[x]? = s.heap[x]? := fun x h9 => (hk x (Nat.lt_of_lt_of_le h9 hS.1) (fun h => h)).trans (hk0 x h9)
                have hS := hS1
                obtain rfl := hw
                rw [show siF q σ (14 : Int) = (if σ 20 1 = σ 20 2 ∧ faF q σ = -1 then 1 else 0) from rfl]
                refine lv_iconst (v := zI 1) hx hb dL_isHeld_56 rfl ?_
                refine z_icmp_ne (tgt := 64) hx hb dL_isHeld_57 (by decide) (by omega) (by omega) (fun cd57 => ?_) (fun cd57 => ?_)
                · skip
                  refine lv_iconst (v := zI 0) hx hb dL_isHeld_64 rfl ?_
                  refine lv_istore_n (lv' := [(2, .int (zI (0))), (0, .ref (a 0)), (1, .int (zI (1)))]) hx hb dL_isHeld_65 rfl hl (by decide) rfl (fun ls hl => ?_)
                  refine lv_iconst (v := zI 0) hx hb dL_isHeld_66 rfl ?_
                  refine lv_istore_n (lv' := [(3, .int (zI (0))), (2, .int (zI (0))), (0, .ref (a 0)), (1, .int (zI (1)))]) hx hb dL_isHeld_67 rfl hl (by decide) rfl (fun ls hl => ?_)
                  have loop68 : ∀ (n : Nat) (i : Nat) (H : Heap) (locs : List Loc) (ls : Array Slot), 40 - i < n → ((i : Int) ≤ σ 20 1) → va_P D vwCl (wld cy a q σ ++ []) H → va_S (wF a s.heap.size) s.heap H locs → (∀ x : Nat, x < s.heap.size → H[x]? = s.heap[x]?) → lv_has ls 4 [(0, .ref (a 0)), (2, .int (zI (0))), (3, .int (zI ((i : Int))))] → W p l e (headSpec wsL_isHeld ({ frames := 12, cells := 225, slots := 1350, locals := 600 })).room s m ([.ref (a 0)] : List Value).toArray below meth c H locs (13 + i * 5) (78 + i * 30) (MQ below (va_Qi (fun (r : Int32) (_ : Unit) => r = zI (1)) (fun _ _ => True) (fun _ => False)) ([.ref (a 0)] : List Value).toArray s 225 1350 (wF a s.heap.size)) (F0 m 68 ls []) := by
                    intro n
                    induction n with
                    | zero => intro i H locs ls h0; exact absurd h0 (Nat.not_lt_zero _)
                    | succ n ih68 =>
                      intro i H locs ls hms hi hP hS hk0 hl
                      refine lv_iload_n hx hb dL_isHeld_68 rfl (lv_at hl 2 rfl) ?_
                      refine lv_aload_n hx hb dL_isHeld_69 rfl (lv_at hl 0 rfl) ?_
                      refine lv_bipush (v := zI 12) hx hb dL_isHeld_70 (by decide +kernel) ?_
                      refine vx_calli (vx_runV (As := [.int (zI (12))]) (rest := [.int (zI ((i : Int)))]) ⟨hx, hb, hml, hown, hts⟩ (c_X7_site l hlT D cy a q σ H.size (12) (by omega) _ _ hO) (cwV 1 hts gL_isHeld_X7_site rfl rfl rfl (by decide +kernel) ⟨Nat.le_of_ble_eq_true rfl, Nat.le_of_ble_eq_true rfl⟩) ⟨Wd_blind, va_recv hK hP (ci := 9) (q0 := 0) rfl wg_S, fun U hU hW => ⟨rfl, by rw [hU], Wd_mk (wP_left hP) hE0 hS hU hW⟩⟩ rfl rfl hl.1 rfl (lv_room (Nat.le_of_ble_eq_true rfl)) dL_isHeld_72 ⟨(show 13 + i * 5 + 1 ≤ 225 by omega), (show 78 + i * 30 + 6 ≤ 1350 by omega)⟩) hS (fun _ _ h => h.elim) (fun _ h => wF_mono hS.1 _ h) (fun _ _ h => h.elim) (fun E9 ce9 q9 u9 t9 H locs ht hvm hpx hE hz hk hS1 hce hcv hcl => ?_) (fun rv72 u9 t9 H locs ht hvm hw hB hz hk hS1 => ?_)
                      · skip
                        exact absurd hpx (by omega)
                      · skip
                        have hP := hP.kept (fun k x hk9 => hk x.1 ((hP k x hk9).lt) (fun h => h))
                        have hk0 : ∀ x : Nat, x < s.heap.size → H[x]? = s.heap[x]? := fun x h9 => (hk x (Nat.lt_of_lt_of_le h9 hS.1) (fun h => h)).trans (hk0 x h9)
                        have hS := hS1
                        obtain rfl := hw
                        rw [show siF q σ (12 : Int) = σ 20 1 from rfl]
                        refine z_icmp_ge (tgt := 124) hx hb dL_isHeld_75 (by decide) (by omega) (by omega) (fun cd75 => ?_) (fun cd75 => ?_)
                        · skip
                          refine lv_aload_n hx hb dL_isHeld_124 rfl (lv_at hl 0 rfl) ?_
                          refine va_calli (va_runV (As := []) (rest := []) ⟨hx, hb, hml, hown, hts⟩ (c_X7_isSound l D cy a q σ H.size _ hO) (cwV 0 hts gL_isHeld_X7_isSound rfl rfl rfl (by decide +kernel) ⟨Nat.le_of_ble_eq_true rfl, Nat.le_of_ble_eq_true rfl⟩) ⟨Wd_blind, va_recv hK hP (ci := 9) (q0 := 0) rfl wg_S, fun U hU hW => ⟨rfl, by rw [hU], Wd_mk (wP_left hP) hE0 hS hU hW⟩⟩ rfl rfl hl.1 rfl (lv_room (Nat.le_of_ble_eq_true rfl)) dL_isHeld_125 ⟨(show 13 + i * 5 + 1 + 0 ≤ 225 by omega), (show 78 + i * 30 + 6 + 0 ≤ 1350 by omega)⟩) hS (fun _ _ h => h.elim) (fun _ h => wF_mono hS.1 _ h) (fun rv125 u9 t9 H locs ht hvm hw hB hz hk hS1 => ?_)
                          have hP := hP.kept (fun k x hk9 => hk x.1 ((hP k x hk9).lt) (fun h => h))
                          have hk0 : ∀ x : Nat, x < s.heap.size → H[x]? = s.heap[x]? := fun x h9 => (hk x (Nat.lt_of_lt_of_le h9 hS.1) (fun h => h)).trans (hk0 x h9)
                          have hS := hS1
                          obtain rfl := hw
                          refine z_if_eq (tgt := 164) hx hb dL_isHeld_128 (by decide) (by decide) (fun cd128 => absurd cd128 (by decide)) (fun _ => ?_)
                          refine lv_iload_n hx hb dL_isHeld_131 rfl (lv_at hl 1 rfl) ?_
                          refine z_if_eq (tgt := 160) hx hb dL_isHeld_132 (by decide) (by decide) (fun _ => ?_) (fun cd132 => absurd cd132 (by decide))
                          refine lv_iconst (v := zI 1) hx hb dL_isHeld_160 rfl ?_
                          refine lv_goto (tgt := 165) hx hb dL_isHeld_161 (by decide) ?_
                          refine W.widen (k := 225) (n := 1350) (by omega) (by omega) ?_
                          exact W.zret (v := zI (1)) (ty := .boolean) hx hb hr (by decide +kernel) (fun t9 ht hW => ⟨⟨_, (), rfl, (by first | rfl | (congr 1; omega)), trivial⟩, vF_R ht hS.1 hk0⟩) hS.2.2 dL_isHeld_165
                        · skip
                          have hqi := oQ.1 i (by omega); have oPi := oP (q i) hqi; unfold okP at oPi
                          refine lv_iload_n hx hb dL_isHeld_78 rfl (lv_at hl 1 rfl) ?_
                          refine z_if_eq (tgt := 118) hx hb dL_isHeld_79 (by decide) (by decide) (fun _ => ?_) (fun cd79 => absurd cd79 (by decide))
                          refine lv_iinc (v := zI ((i : Int) + 1)) (lv' := [(3, .int (zI ((i : Int) + 1))), (0, .ref (a 0)), (2, .int (zI (0)))]) hx hb dL_isHeld_118 hl (k := 2) rfl (zI_add _ _) (by decide) rfl (fun ls hl => ?_)
                          refine lv_goto (tgt := 68) hx hb dL_isHeld_121 (by decide) ?_
                          refine W.widen (k := 13 + (i + 1) * 5) (n := 78 + (i + 1) * 30) (by omega) (by omega) ?_
                          exact ih68 (i + 1) H locs ls (by omega) (by omega)  hP hS hk0 (by have h9 := lv_sub hl [1, 2, 0] rfl; exact h9)
                  refine W.widen (k := 13 + 0 * 5) (n := 78 + 0 * 30) (by omega) (by omega) ?_
                  exact loop68 (41) 0 H locs ls (by omega) (by omega)  hP hS hk0 (lv_sub hl [2, 1, 0] rfl)
                · skip
                  refine lv_iconst (v := zI 1) hx hb dL_isHeld_60 rfl ?_
                  refine lv_goto (tgt := 65) hx hb dL_isHeld_61 (by decide) ?_
                  refine lv_istore_n (lv' := [(2, .int (zI (1))), (0, .ref (a 0)), (1, .int (zI (1)))]) hx hb dL_isHeld_65 rfl hl (by decide) rfl (fun ls hl => ?_)
                  refine lv_iconst (v := zI 0) hx hb dL_isHeld_66 rfl ?_
                  refine lv_istore_n (lv' := [(3, .int (zI (0))), (2, .int (zI (1))), (0, .ref (a 0)), (1, .int (zI (1)))]) hx hb dL_isHeld_67 rfl hl (by decide) rfl (fun ls hl => ?_)
                  have loop68 : ∀ (n : Nat) (i : Nat) (H : Heap) (locs : List Loc) (ls : Array Slot), 40 - i < n → ((i : Int) ≤ σ 20 1) → va_P D vwCl (wld cy a q σ ++ []) H → va_S (wF a s.heap.size) s.heap H locs → (∀ x : Nat, x < s.heap.size → H[x]? = s.heap[x]?) → lv_has ls 4 [(0, .ref (a 0)), (2, .int (zI (1))), (3, .int (zI ((i : Int))))] → W p l e (headSpec wsL_isHeld ({ frames := 12, cells := 225, slots := 1350, locals := 600 })).room s m ([.ref (a 0)] : List Value).toArray below meth c H locs (13 + i * 5) (78 + i * 30) (MQ below (va_Qi (fun (r : Int32) (_ : Unit) => r = zI (1)) (fun _ _ => True) (fun _ => False)) ([.ref (a 0)] : List Value).toArray s 225 1350 (wF a s.heap.size)) (F0 m 68 ls []) := by
                    intro n
                    induction n with
                    | zero => intro i H locs ls h0; exact absurd h0 (Nat.not_lt_zero _)
                    | succ n ih68 =>
                      intro i H locs ls hms hi hP hS hk0 hl
                      refine lv_iload_n hx hb dL_isHeld_68 rfl (lv_at hl 2 rfl) ?_
                      refine lv_aload_n hx hb dL_isHeld_69 rfl (lv_at hl 0 rfl) ?_
                      refine lv_bipush (v := zI 12) hx hb dL_isHeld_70 (by decide +kernel) ?_
                      refine vx_calli (vx_runV (As := [.int (zI (12))]) (rest := [.int (zI ((i : Int)))]) ⟨hx, hb, hml, hown, hts⟩ (c_X7_site l hlT D cy a q σ H.size (12) (by omega) _ _ hO) (cwV 1 hts gL_isHeld_X7_site rfl rfl rfl (by decide +kernel) ⟨Nat.le_of_ble_eq_true rfl, Nat.le_of_ble_eq_true rfl⟩) ⟨Wd_blind, va_recv hK hP (ci := 9) (q0 := 0) rfl wg_S, fun U hU hW => ⟨rfl, by rw [hU], Wd_mk (wP_left hP) hE0 hS hU hW⟩⟩ rfl rfl hl.1 rfl (lv_room (Nat.le_of_ble_eq_true rfl)) dL_isHeld_72 ⟨(show 13 + i * 5 + 1 ≤ 225 by omega), (show 78 + i * 30 + 6 ≤ 1350 by omega)⟩) hS (fun _ _ h => h.elim) (fun _ h => wF_mono hS.1 _ h) (fun _ _ h => h.elim) (fun E9 ce9 q9 u9 t9 H locs ht hvm hpx hE hz hk hS1 hce hcv hcl => ?_) (fun rv72 u9 t9 H locs ht hvm hw hB hz hk hS1 => ?_)
                      · skip
                        exact absurd hpx (by omega)
                      · skip
                        have hP := hP.kept (fun k x hk9 => hk x.1 ((hP k x hk9).lt) (fun h => h))
                        have hk0 : ∀ x : Nat, x < s.heap.size → H[x]? = s.heap[x]? := fun x h9 => (hk x (Nat.lt_of_lt_of_le h9 hS.1) (fun h => h)).trans (hk0 x h9)
                        have hS := hS1
                        obtain rfl := hw
                        rw [show siF q σ (12 : Int) = σ 20 1 from rfl]
                        refine z_icmp_ge (tgt := 124) hx hb dL_isHeld_75 (by decide) (by omega) (by omega) (fun cd75 => ?_) (fun cd75 => ?_)
                        · skip
                          refine lv_aload_n hx hb dL_isHeld_124 rfl (lv_at hl 0 rfl) ?_
                          refine va_calli (va_runV (As := []) (rest := []) ⟨hx, hb, hml, hown, hts⟩ (c_X7_isSound l D cy a q σ H.size _ hO) (cwV 0 hts gL_isHeld_X7_isSound rfl rfl rfl (by decide +kernel) ⟨Nat.le_of_ble_eq_true rfl, Nat.le_of_ble_eq_true rfl⟩) ⟨Wd_blind, va_recv hK hP (ci := 9) (q0 := 0) rfl wg_S, fun U hU hW => ⟨rfl, by rw [hU], Wd_mk (wP_left hP) hE0 hS hU hW⟩⟩ rfl rfl hl.1 rfl (lv_room (Nat.le_of_ble_eq_true rfl)) dL_isHeld_125 ⟨(show 13 + i * 5 + 1 + 0 ≤ 225 by omega), (show 78 + i * 30 + 6 + 0 ≤ 1350 by omega)⟩) hS (fun _ _ h => h.elim) (fun _ h => wF_mono hS.1 _ h) (fun rv125 u9 t9 H locs ht hvm hw hB hz hk hS1 => ?_)
                          have hP := hP.kept (fun k x hk9 => hk x.1 ((hP k x hk9).lt) (fun h => h))
                          have hk0 : ∀ x : Nat, x < s.heap.size → H[x]? = s.heap[x]? := fun x h9 => (hk x (Nat.lt_of_lt_of_le h9 hS.1) (fun h => h)).trans (hk0 x h9)
                          have hS := hS1
                          obtain rfl := hw
                          refine z_if_eq (tgt := 164) hx hb dL_isHeld_128 (by decide) (by decide) (fun cd128 => absurd cd128 (by decide)) (fun _ => ?_)
                          refine lv_iload_n hx hb dL_isHeld_131 rfl (lv_at hl 1 rfl) ?_
                          refine z_if_eq (tgt := 160) hx hb dL_isHeld_132 (by decide) (by decide) (fun cd132 => absurd cd132 (by decide)) (fun _ => ?_)
                          refine lv_aload_n hx hb dL_isHeld_135 rfl (lv_at hl 0 rfl) ?_
                          refine lv_bipush (v := zI 12) hx hb dL_isHeld_136 (by decide +kernel) ?_
                          refine vx_calli (vx_runV (As := [.int (zI (12))]) (rest := []) ⟨hx, hb, hml, hown, hts⟩ (c_X7_site l hlT D cy a q σ H.size (12) (by omega) _ _ hO) (cwV 1 hts gL_isHeld_X7_site rfl rfl rfl (by decide +kernel) ⟨Nat.le_of_ble_eq_true rfl, Nat.le_of_ble_eq_true rfl⟩) ⟨Wd_blind, va_recv hK hP (ci := 9) (q0 := 0) rfl wg_S, fun U hU hW => ⟨rfl, by rw [hU], Wd_mk (wP_left hP) hE0 hS hU hW⟩⟩ rfl rfl hl.1 rfl (lv_room (Nat.le_of_ble_eq_true rfl)) dL_isHeld_138 ⟨(show 13 + i * 5 + 1 + 0 + 1 ≤ 225 by omega), (show 78 + i * 30 + 6 + 0 + 6 ≤ 1350 by omega)⟩) hS (fun _ _ h => h.elim) (fun _ h => wF_mono hS.1 _ h) (fun _ _ h => h.elim) (fun E9 ce9 q9 u9 t9 H locs ht hvm hpx hE hz hk hS1 hce hcv hcl => ?_) (fun rv138 u9 t9 H locs ht hvm hw hB hz hk hS1 => ?_)
                          · skip
                            exact absurd hpx (by omega)
                          · skip
                            have hP := hP.kept (fun k x hk9 => hk x.1 ((hP k x hk9).lt) (fun h => h))
                            have hk0 : ∀ x : Nat, x < s.heap.size → H[x]? = s.heap[x]? := fun x h9 => (hk x (Nat.lt_of_lt_of_le h9 hS.1) (fun h => h)).trans (hk0 x h9)
                            have hS := hS1
                            obtain rfl := hw
                            rw [show siF q σ (12 : Int) = σ 20 1 from rfl]
                            refine lv_aload_n hx hb dL_isHeld_141 rfl (lv_at hl 0 rfl) ?_
                            refine lv_bipush (v := zI 13) hx hb dL_isHeld_142 (by decide +kernel) ?_
                            refine vx_calli (vx_runV (As := [.int (zI (13))]) (rest := [.int (zI (σ 20 1))]) ⟨hx, hb, hml, hown, hts⟩ (c_X7_site l hlT D cy a q σ H.size (13) (by omega) _ _ hO) (cwV 1 hts gL_isHeld_X7_site rfl rfl rfl (by decide +kernel) ⟨Nat.le_of_ble_eq_true rfl, Nat.le_of_ble_eq_true rfl⟩) ⟨Wd_blind, va_recv hK hP (ci := 9) (q0 := 0) rfl wg_S, fun U hU hW => ⟨rfl, by rw [hU], Wd_mk (wP_left hP) hE0 hS hU hW⟩⟩ rfl rfl hl.1 rfl (lv_room (Nat.le_of_ble_eq_true rfl)) dL_isHeld_144 ⟨(show 13 + i * 5 + 1 + 0 + 1 + 1 ≤ 225 by omega), (show 78 + i * 30 + 6 + 0 + 6 + 6 ≤ 1350 by omega)⟩) hS (fun _ _ h => h.elim) (fun _ h => wF_mono hS.1 _ h) (fun _ _ h => h.elim) (fun E9 ce9 q9 u9 t9 H locs ht hvm hpx hE hz hk hS1 hce hcv hcl => ?_) (fun rv144 u9 t9 H locs ht hvm hw hB hz hk hS1 => ?_)
                            · skip
                              exact absurd hpx (by omega)
                            · skip
                              have hP := hP.kept (fun k x hk9 => hk x.1 ((hP k x hk9).lt) (fun h => h))
                              have hk0 : ∀ x : Nat, x < s.heap.size → H[x]? = s.heap[x]? := fun x h9 => (hk x (Nat.lt_of_lt_of_le h9 hS.1) (fun h => h)).trans (hk0 x h9)
                              have hS := hS1
                              obtain rfl := hw
                              rw [show siF q σ (13 : Int) = σ 20 2 from rfl]
                              refine z_icmp_ne (tgt := 164) hx hb dL_isHeld_147 (by decide) (by omega) (by omega) (fun cd147 => ?_) (fun cd147 => ?_)
                              · skip
                                refine lv_iconst (v := zI 0) hx hb dL_isHeld_164 rfl ?_
                                refine W.widen (k := 225) (n := 1350) (by omega) (by omega) ?_
                                exact W.zret (v := zI (0)) (ty := .boolean) hx hb hr (by decide +kernel) (fun t9 ht hW => ⟨⟨_, (), rfl, (by first | rfl | (congr 1; omega)), trivial⟩, vF_R ht hS.1 hk0⟩) hS.2.2 dL_isHeld_165
                              · skip
                                refine lv_aload_n hx hb dL_isHeld_150 rfl (lv_at hl 0 rfl) ?_
                                refine lv_bipush (v := zI 15) hx hb dL_isHeld_151 (by decide +kernel) ?_
                                refine vx_calli (vx_runV (As := [.int (zI (15))]) (rest := []) ⟨hx, hb, hml, hown, hts⟩ (c_X7_site l hlT D cy a q σ H.size (15) (by omega) _ _ hO) (cwV 1 hts gL_isHeld_X7_site rfl rfl rfl (by decide +kernel) ⟨Nat.le_of_ble_eq_true rfl, Nat.le_of_ble_eq_true rfl⟩) ⟨Wd_blind, va_recv hK hP (ci := 9) (q0 := 0) rfl wg_S, fun U hU hW => ⟨rfl, by rw [hU], Wd_mk (wP_left hP) hE0 hS hU hW⟩⟩ rfl rfl hl.1 rfl (lv_room (Nat.le_of_ble_eq_true rfl)) dL_isHeld_153 ⟨(show 13 + i * 5 + 1 + 0 + 1 + 1 + 1 ≤ 225 by omega), (show 78 + i * 30 + 6 + 0 + 6 + 6 + 6 ≤ 1350 by omega)⟩) hS (fun _ _ h => h.elim) (fun _ h => wF_mono hS.1 _ h) (fun _ _ h => h.elim) (fun E9 ce9 q9 u9 t9 H locs ht hvm hpx hE hz hk hS1 hce hcv hcl => ?_) (fun rv153 u9 t9 H locs ht hvm hw hB hz hk hS1 => ?_)
                                · skip
                                  exact absurd hpx (by omega)
                                · skip
                                  have hP := hP.kept (fun k x hk9 => hk x.1 ((hP k x hk9).lt) (fun h => h))
                                  have hk0 : ∀ x : Nat, x < s.heap.size → H[x]? = s.heap[x]? := fun x h9 => (hk x (Nat.lt_of_lt_of_le h9 hS.1) (fun h => h)).trans (hk0 x h9)
                                  have hS := hS1
                                  obtain rfl := hw
                                  rw [show siF q σ (15 : Int) = faF q σ from rfl]
                                  refine lv_iconst (v := zI (-1)) hx hb dL_isHeld_156 rfl ?_
                                  refine z_icmp_ne (tgt := 164) hx hb dL_isHeld_157 (by decide) (by omega) (by omega) (fun cd157 => ?_) (fun cd157 => ?_)
                                  · skip
                                    refine lv_iconst (v := zI 0) hx hb dL_isHeld_164 rfl ?_
                                    refine W.widen (k := 225) (n := 1350) (by omega) (by omega) ?_
                                    exact W.zret (v := zI (0)) (ty := .boolean) hx hb hr (by decide +kernel) (fun t9 ht hW => ⟨⟨_, (), rfl, (by first | rfl | (congr 1; omega)), trivial⟩, vF_R ht hS.1 hk0⟩) hS.2.2 dL_isHeld_165
                                  · skip
                                    refine lv_iconst (v := zI 1) hx hb dL_isHeld_160 rfl ?_
                                    refine lv_goto (tgt := 165) hx hb dL_isHeld_161 (by decide) ?_
                                    refine W.widen (k := 225) (n := 1350) (by omega) (by omega) ?_
                                    exact W.zret (v := zI (1)) (ty := .boolean) hx hb hr (by decide +kernel) (fun t9 ht hW => ⟨⟨_, (), rfl, (by first | rfl | (congr 1; omega)), trivial⟩, vF_R ht hS.1 hk0⟩) hS.2.2 dL_isHeld_165
                        · skip
                          have hqi := oQ.1 i (by omega); have oPi := oP (q i) hqi; unfold okP at oPi
                          refine lv_iload_n hx hb dL_isHeld_78 rfl (lv_at hl 1 rfl) ?_
                          refine z_if_eq (tgt := 118) hx hb dL_isHeld_79 (by decide) (by decide) (fun cd79 => absurd cd79 (by decide)) (fun _ => ?_)
                          refine lv_aload_n hx hb dL_isHeld_82 rfl (lv_at hl 0 rfl) ?_
                          refine lv_iload_n hx hb dL_isHeld_83 rfl (lv_at hl 2 rfl) ?_
                          refine lv_iconst (v := zI 0) hx hb dL_isHeld_84 rfl ?_
                          refine vx_calli (vx_runV (As := [.int (zI ((i : Int))), .int (zI (0))]) (rest := []) ⟨hx, hb, hml, hown, hts⟩ (c_X7_page l hlT D cy a q σ H.size ((i : Int)) (by omega) (0) (by omega) _ _ hO) (cwV 2 hts gL_isHeld_X7_page rfl rfl rfl (by decide +kernel) ⟨Nat.le_of_ble_eq_true rfl, Nat.le_of_ble_eq_true rfl⟩) ⟨Wd_blind, va_recv hK hP (ci := 9) (q0 := 0) rfl wg_S, fun U hU hW => ⟨rfl, by rw [hU], Wd_mk (wP_left hP) hE0 hS hU hW⟩⟩ rfl rfl hl.1 rfl (lv_room (Nat.le_of_ble_eq_true rfl)) dL_isHeld_85 ⟨(show 13 + i * 5 + 1 + 1 ≤ 225 by omega), (show 78 + i * 30 + 6 + 6 ≤ 1350 by omega)⟩) hS (fun _ _ h => h.elim) (fun _ h => wF_mono hS.1 _ h) (fun _ _ h => h.elim) (fun E9 ce9 q9 u9 t9 H locs ht hvm hpx hE hz hk hS1 hce hcv hcl => ?_) (fun rv85 u9 t9 H locs ht hvm hw hB hz hk hS1 => ?_)
                          · skip
                            exact absurd hpx (by omega)
                          · skip
                            have hP := hP.kept (fun k x hk9 => hk x.1 ((hP k x hk9).lt) (fun h => h))
                            have hk0 : ∀ x : Nat, x < s.heap.size → H[x]? = s.heap[x]? := fun x h9 => (hk x (Nat.lt_of_lt_of_le h9 hS.1) (fun h => h)).trans (hk0 x h9)
                            have hS := hS1
                            obtain rfl := hw
                            rw [show σ (22 + q (i : Int).toNat) (0 : Int).toNat = σ (22 + q i) 0 from rfl]
                            refine z_if_ne (tgt := 118) hx hb dL_isHeld_88 (by decide) (by omega) (fun cd88 => ?_) (fun cd88 => ?_)
                            · skip
                              refine lv_iinc (v := zI ((i : Int) + 1)) (lv' := [(3, .int (zI ((i : Int) + 1))), (0, .ref (a 0)), (2, .int (zI (1)))]) hx hb dL_isHeld_118 hl (k := 2) rfl (zI_add _ _) (by decide) rfl (fun ls hl => ?_)
                              refine lv_goto (tgt := 68) hx hb dL_isHeld_121 (by decide) ?_
                              refine W.widen (k := 13 + (i + 1) * 5) (n := 78 + (i + 1) * 30) (by omega) (by omega) ?_
                              exact ih68 (i + 1) H locs ls (by omega) (by omega)  hP hS hk0 (by have h9 := lv_sub hl [1, 2, 0] rfl; exact h9)
                            · skip
                              refine lv_aload_n hx hb dL_isHeld_91 rfl (lv_at hl 0 rfl) ?_
                              refine lv_iload_n hx hb dL_isHeld_92 rfl (lv_at hl 2 rfl) ?_
                              refine lv_iconst (v := zI 4) hx hb dL_isHeld_93 rfl ?_
                              refine vx_calli (vx_runV (As := [.int (zI ((i : Int))), .int (zI (4))]) (rest := []) ⟨hx, hb, hml, hown, hts⟩ (c_X7_page l hlT D cy a q σ H.size ((i : Int)) (by omega) (4) (by omega) _ _ hO) (cwV 2 hts gL_isHeld_X7_page rfl rfl rfl (by decide +kernel) ⟨Nat.le_of_ble_eq_true rfl, Nat.le_of_ble_eq_true rfl⟩) ⟨Wd_blind, va_recv hK hP (ci := 9) (q0 := 0) rfl wg_S, fun U hU hW => ⟨rfl, by rw [hU], Wd_mk (wP_left hP) hE0 hS hU hW⟩⟩ rfl rfl hl.1 rfl (lv_room (Nat.le_of_ble_eq_true rfl)) dL_isHeld_94 ⟨(show 13 + i * 5 + 1 + 1 + 1 ≤ 225 by omega), (show 78 + i * 30 + 6 + 6 + 6 ≤ 1350 by omega)⟩) hS (fun _ _ h => h.elim) (fun _ h => wF_mono hS.1 _ h) (fun _ _ h => h.elim) (fun E9 ce9 q9 u9 t9 H locs ht hvm hpx hE hz hk hS1 hce hcv hcl => ?_) (fun rv94 u9 t9 H locs ht hvm hw hB hz hk hS1 => ?_)
                              · skip
                                exact absurd hpx (by omega)
                              · skip
                                have hP := hP.kept (fun k x hk9 => hk x.1 ((hP k x hk9).lt) (fun h => h))
                                have hk0 : ∀ x : Nat, x < s.heap.size → H[x]? = s.heap[x]? := fun x h9 => (hk x (Nat.lt_of_lt_of_le h9 hS.1) (fun h => h)).trans (hk0 x h9)
                                have hS := hS1
                                obtain rfl := hw
                                rw [show σ (22 + q (i : Int).toNat) (4 : Int).toNat = σ (22 + q i) 4 from rfl]
                                refine z_if_ne (tgt := 118) hx hb dL_isHeld_97 (by decide) (by omega) (fun cd97 => ?_) (fun cd97 => ?_)
                                · skip
                                  refine lv_iinc (v := zI ((i : Int) + 1)) (lv' := [(3, .int (zI ((i : Int) + 1))), (0, .ref (a 0)), (2, .int (zI (1)))]) hx hb dL_isHeld_118 hl (k := 2) rfl (zI_add _ _) (by decide) rfl (fun ls hl => ?_)
                                  refine lv_goto (tgt := 68) hx hb dL_isHeld_121 (by decide) ?_
                                  refine W.widen (k := 13 + (i + 1) * 5) (n := 78 + (i + 1) * 30) (by omega) (by omega) ?_
                                  exact ih68 (i + 1) H locs ls (by omega) (by omega)  hP hS hk0 (by have h9 := lv_sub hl [1, 2, 0] rfl; exact h9)
                                · skip
                                  refine lv_aload_n hx hb dL_isHeld_100 rfl (lv_at hl 0 rfl) ?_
                                  refine lv_iload_n hx hb dL_isHeld_101 rfl (lv_at hl 2 rfl) ?_
                                  refine lv_iconst (v := zI 3) hx hb dL_isHeld_102 rfl ?_
                                  refine vx_calli (vx_runV (As := [.int (zI ((i : Int))), .int (zI (3))]) (rest := []) ⟨hx, hb, hml, hown, hts⟩ (c_X7_page l hlT D cy a q σ H.size ((i : Int)) (by omega) (3) (by omega) _ _ hO) (cwV 2 hts gL_isHeld_X7_page rfl rfl rfl (by decide +kernel) ⟨Nat.le_of_ble_eq_true rfl, Nat.le_of_ble_eq_true rfl⟩) ⟨Wd_blind, va_recv hK hP (ci := 9) (q0 := 0) rfl wg_S, fun U hU hW => ⟨rfl, by rw [hU], Wd_mk (wP_left hP) hE0 hS hU hW⟩⟩ rfl rfl hl.1 rfl (lv_room (Nat.le_of_ble_eq_true rfl)) dL_isHeld_103 ⟨(show 13 + i * 5 + 1 + 1 + 1 + 1 ≤ 225 by omega), (show 78 + i * 30 + 6 + 6 + 6 + 6 ≤ 1350 by omega)⟩) hS (fun _ _ h => h.elim) (fun _ h => wF_mono hS.1 _ h) (fun _ _ h => h.elim) (fun E9 ce9 q9 u9 t9 H locs ht hvm hpx hE hz hk hS1 hce hcv hcl => ?_) (fun rv103 u9 t9 H locs ht hvm hw hB hz hk hS1 => ?_)
                                  · skip
                                    exact absurd hpx (by omega)
                                  · skip
                                    have hP := hP.kept (fun k x hk9 => hk x.1 ((hP k x hk9).lt) (fun h => h))
                                    have hk0 : ∀ x : Nat, x < s.heap.size → H[x]? = s.heap[x]? := fun x h9 => (hk x (Nat.lt_of_lt_of_le h9 hS.1) (fun h => h)).trans (hk0 x h9)
                                    have hS := hS1
                                    obtain rfl := hw
                                    rw [show σ (22 + q (i : Int).toNat) (3 : Int).toNat = σ (22 + q i) 3 from rfl]
                                    refine lv_aload_n hx hb dL_isHeld_106 rfl (lv_at hl 0 rfl) ?_
                                    refine lv_iload_n hx hb dL_isHeld_107 rfl (lv_at hl 2 rfl) ?_
                                    refine lv_bipush (v := zI 6) hx hb dL_isHeld_108 (by decide +kernel) ?_
                                    refine vx_calli (vx_runV (As := [.int (zI ((i : Int))), .int (zI (6))]) (rest := [.int (zI (σ (22 + q i) 3))]) ⟨hx, hb, hml, hown, hts⟩ (c_X7_page l hlT D cy a q σ H.size ((i : Int)) (by omega) (6) (by omega) _ _ hO) (cwV 2 hts gL_isHeld_X7_page rfl rfl rfl (by decide +kernel) ⟨Nat.le_of_ble_eq_true rfl, Nat.le_of_ble_eq_true rfl⟩) ⟨Wd_blind, va_recv hK hP (ci := 9) (q0 := 0) rfl wg_S, fun U hU hW => ⟨rfl, by rw [hU], Wd_mk (wP_left hP) hE0 hS hU hW⟩⟩ rfl rfl hl.1 rfl (lv_room (Nat.le_of_ble_eq_true rfl)) dL_isHeld_110 ⟨(show 13 + i * 5 + 1 + 1 + 1 + 1 + 1 ≤ 225 by omega), (show 78 + i * 30 + 6 + 6 + 6 + 6 + 6 ≤ 1350 by omega)⟩) hS (fun _ _ h => h.elim) (fun _ h => wF_mono hS.1 _ h) (fun _ _ h => h.elim) (fun E9 ce9 q9 u9 t9 H locs ht hvm hpx hE hz hk hS1 hce hcv hcl => ?_) (fun rv110 u9 t9 H locs ht hvm hw hB hz hk hS1 => ?_)
                                    · skip
                                      exact absurd hpx (by omega)
                                    · skip
                                      have hP := hP.kept (fun k x hk9 => hk x.1 ((hP k x hk9).lt) (fun h => h))
                                      have hk0 : ∀ x : Nat, x < s.heap.size → H[x]? = s.heap[x]? := fun x h9 => (hk x (Nat.lt_of_lt_of_le h9 hS.1) (fun h => h)).trans (hk0 x h9)
                                      have hS := hS1
                                      obtain rfl := hw
                                      rw [show σ (22 + q (i : Int).toNat) (6 : Int).toNat = σ (22 + q i) 6 from rfl]
                                      refine z_icmp_le (tgt := 118) hx hb dL_isHeld_113 (by decide) (by omega) (by omega) (fun cd113 => ?_) (fun cd113 => ?_)
                                      · skip
                                        refine lv_iinc (v := zI ((i : Int) + 1)) (lv' := [(3, .int (zI ((i : Int) + 1))), (0, .ref (a 0)), (2, .int (zI (1)))]) hx hb dL_isHeld_118 hl (k := 2) rfl (zI_add _ _) (by decide) rfl (fun ls hl => ?_)
                                        refine lv_goto (tgt := 68) hx hb dL_isHeld_121 (by decide) ?_
                                        refine W.widen (k := 13 + (i + 1) * 5) (n := 78 + (i + 1) * 30) (by omega) (by omega) ?_
                                        exact ih68 (i + 1) H locs ls (by omega) (by omega)  hP hS hk0 (by have h9 := lv_sub hl [1, 2, 0] rfl; exact h9)
                                      · skip
                                        refine lv_iconst (v := zI 0) hx hb dL_isHeld_116 rfl ?_
                                        refine W.widen (k := 225) (n := 1350) (by omega) (by omega) ?_
                                        exact W.zret (v := zI (0)) (ty := .boolean) hx hb hr (by decide +kernel) (fun t9 ht hW => ⟨⟨_, (), rfl, (by first | rfl | (congr 1; omega)), trivial⟩, vF_R ht hS.1 hk0⟩) hS.2.2 dL_isHeld_117
                  refine W.widen (k := 13 + 0 * 5) (n := 78 + 0 * 30) (by omega) (by omega) ?_
                  exact loop68 (41) 0 H locs ls (by omega) (by omega)  hP hS hk0 (lv_sub hl [2, 1, 0] rfl)
            · skip
              have oCi := oC i (by omega); unfold okC at oCi
              refine lv_iload_n hx hb dL_isHeld_28 rfl (lv_at hl 1 rfl) ?_
              refine z_if_eq (tgt := 44) hx hb dL_isHeld_29 (by decide) (by decide) (fun cd29 => absurd cd29 (by decide)) (fun _ => ?_)
              refine lv_aload_n hx hb dL_isHeld_32 rfl (lv_at hl 0 rfl) ?_
              refine lv_iload_n hx hb dL_isHeld_33 rfl (lv_at hl 2 rfl) ?_
              refine lv_iconst (v := zI 4) hx hb dL_isHeld_34 rfl ?_
              refine vx_calli (vx_runV (As := [.int (zI ((i : Int))), .int (zI (4))]) (rest := []) ⟨hx, hb, hml, hown, hts⟩ (c_X7_ofCrane l hlT D cy a q σ H.size ((i : Int)) (by omega) (4) (by omega) _ _ hO) (cwV 2 hts gL_isHeld_X7_ofCrane rfl rfl rfl (by decide +kernel) ⟨Nat.le_of_ble_eq_true rfl, Nat.le_of_ble_eq_true rfl⟩) ⟨Wd_blind, va_recv hK hP (ci := 9) (q0 := 0) rfl wg_S, fun U hU hW => ⟨rfl, by rw [hU], Wd_mk (wP_left hP) hE0 hS hU hW⟩⟩ rfl rfl hl.1 rfl (lv_room (Nat.le_of_ble_eq_true rfl)) dL_isHeld_35 ⟨(show 1 + i * 3 + 1 + 2 ≤ 225 by omega), (show 6 + i * 18 + 6 + 12 ≤ 1350 by omega)⟩) hS (fun _ _ h => h.elim) (fun _ h => wF_mono hS.1 _ h) (fun _ _ h => h.elim) (fun E9 ce9 q9 u9 t9 H locs ht hvm hpx hE hz hk hS1 hce hcv hcl => ?_) (fun rv35 u9 t9 H locs ht hvm hw hB hz hk hS1 => ?_)
              · skip
                exact absurd hpx (by omega)
              · skip
                have hP := hP.kept (fun k x hk9 => hk x.1 ((hP k x hk9).lt) (fun h => h))
                have hk0 : ∀ x : Nat, x < s.heap.size → H[x]? = s.heap[x]? := fun x h9 => (hk x (Nat.lt_of_lt_of_le h9 hS.1) (fun h => h)).trans (hk0 x h9)
                have hS := hS1
                obtain rfl := hw
                rw [show ofF σ (i : Int).toNat (4 : Int) = σ (3 + i) 5 from rfl]
                refine lv_iconst (v := zI 1) hx hb dL_isHeld_38 rfl ?_
                refine z_icmp_ne (tgt := 44) hx hb dL_isHeld_39 (by decide) (by omega) (by omega) (fun cd39 => ?_) (fun cd39 => ?_)
                · skip
                  refine lv_iinc (v := zI ((i : Int) + 1)) (lv' := [(2, .int (zI ((i : Int) + 1))), (0, .ref (a 0)), (1, .int (zI (1)))]) hx hb dL_isHeld_44 hl (k := 2) rfl (zI_add _ _) (by decide) rfl (fun ls hl => ?_)
                  refine lv_goto (tgt := 18) hx hb dL_isHeld_47 (by decide) ?_
                  refine W.widen (k := 1 + (i + 1) * 3) (n := 6 + (i + 1) * 18) (by omega) (by omega) ?_
                  exact ih18 (i + 1) H locs ls (by omega) (by omega)  hP hS hk0 (by have h9 := lv_sub hl [1, 2, 0] rfl; exact h9)
                · skip
                  refine lv_iconst (v := zI 0) hx hb dL_isHeld_42 rfl ?_
                  refine W.widen (k := 225) (n := 1350) (by omega) (by omega) ?_
                  exact W.zret (v := zI (0)) (ty := .boolean) hx hb hr (by decide +kernel) (fun t9 ht hW => ⟨⟨_, (), rfl, (by first | rfl | (congr 1; omega)), trivial⟩, vF_R ht hS.1 hk0⟩) hS.2.2 dL_isHeld_43
      refine W.widen (k := 1 + 0 * 3) (n := 6 + 0 * 18) (by omega) (by omega) ?_
      exact loop18 (4) 0 H locs ls (by omega) (by omega)  hP hS hk0 (lv_sub hl [2, 1, 0] rfl)
