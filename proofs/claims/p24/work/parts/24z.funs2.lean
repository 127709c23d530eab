/-! WHAT IS ASKED, as functions; and a lift that is tried -/
noncomputable def ofF (σ : Nat → Nat → Int) (i : Nat) (w : Int) : Int := if w = 0 then σ (3 + i) 1 else if w = 1 then σ (3 + i) 2 else if w = 2 then σ (3 + i) 3 else if w = 3 then σ (3 + i) 4 else if w = 4 then σ (3 + i) 5 else if w = 5 then σ (3 + i) 10 else if w = 6 then (if 80 ≤ σ (3 + i) 10 then 1 else 0) else if w = 7 then cpF (σ (3 + i)) (σ (3 + i) 4) (σ 1 5) else if w = 8 then stF (σ (3 + i) 3) (σ 1 4) else σ (3 + i) 11
noncomputable def siF (q : Nat → Nat) (σ : Nat → Nat → Int) (w : Int) : Int := if w = 0 then σ 1 0 else if w = 1 then hrF (σ 1) else if w = 2 then σ 1 5 else if w = 3 then σ 1 2 else if w = 4 then σ 1 3 else if w = 5 then σ 1 4 else if w = 6 then σ 1 1 else if w = 7 then σ 1 6 else if w = 8 then σ 0 5 else if w = 9 then σ 0 6 else if w = 10 then shN σ (σ 0 6).toNat else if w = 11 then σ 0 7 else if w = 12 then σ 20 1 else if w = 13 then σ 20 2 else if w = 14 then (if σ 20 1 = σ 20 2 ∧ faF q σ = -1 then 1 else 0) else if w = 15 then faF q σ else σ 0 8
def beR (r : Nat → Int) (d : Int) : Nat → Int
  | 0 => -1
  | n + 1 => if 1 ≤ cpF r d n then n else beR r d n
theorem beR_b (r : Nat → Int) (d : Int) : ∀ n : Nat, -1 ≤ beR r d n ∧ beR r d n < n ∨ beR r d n = -1
  | 0 => Or.inr rfl
  | n + 1 => by
    have h := beR_b r d n
    unfold beR
    split
    · left; omega
    · rcases h with h | h
      · left; omega
      · right; exact h
theorem beR_go {r : Nat → Int} {d : Int} {n : Nat} (h : ¬ 1 ≤ cpF r d n) : beR r d (n + 1) = beR r d n := if_neg h
theorem beR_at {r : Nat → Int} {d : Int} {n : Nat} (h : 1 ≤ cpF r d n) : beR r d (n + 1) = n := if_pos h
noncomputable def tryR (σ : Nat → Nat → Int) (i : Nat) (load to an : Int) : Nat → Int → Int → Int → Int → Int × Int × Int
  | 0, _, _, _, le => (0, -1, le)
  | n + 1, st, ra, hd, le => if vdF σ load (cpF (σ (3 + i)) ra (σ 1 5)) (σ (3 + i) 0) hd = 0 then (if ra = to then tryR σ i load to an n (st + 1) ra (anF hd an) (mnI le (cpF (σ (3 + i)) ra (σ 1 5))) else tryR σ i load to an n (st + 1) (if ra < to then ra + 1 else ra + -1) hd (mnI le (cpF (σ (3 + i)) ra (σ 1 5)))) else (vdF σ load (cpF (σ (3 + i)) ra (σ 1 5)) (σ (3 + i) 0) hd, st, -1)
noncomputable def tryF (σ : Nat → Nat → Int) (i : Nat) (load fr to an : Int) : Int × Int × Int := if σ (3 + i) 5 = 0 then (1, -1, -1) else if 80 ≤ σ (3 + i) 10 then (2, -1, -1) else tryR σ i load to an (abI (to - fr) + stF (σ (3 + i) 3) an + 1).toNat 0 fr (σ (3 + i) 3) (cpF (σ (3 + i)) fr (σ 1 5))
theorem tryR_no {σ : Nat → Nat → Int} {i : Nat} {load to an st ra hd le : Int} {n : Nat} (h : ¬ vdF σ load (cpF (σ (3 + i)) ra (σ 1 5)) (σ (3 + i) 0) hd = 0) : tryR σ i load to an (n + 1) st ra hd le = (vdF σ load (cpF (σ (3 + i)) ra (σ 1 5)) (σ (3 + i) 0) hd, st, -1) := if_neg h
theorem tryR_turn {σ : Nat → Nat → Int} {i : Nat} {load to an st ra hd le : Int} {n : Nat} (h : vdF σ load (cpF (σ (3 + i)) ra (σ 1 5)) (σ (3 + i) 0) hd = 0) (e : ra = to) : tryR σ i load to an (n + 1) st ra hd le = tryR σ i load to an n (st + 1) ra (anF hd an) (mnI le (cpF (σ (3 + i)) ra (σ 1 5))) := (if_pos h).trans (if_pos e)
theorem tryR_go {σ : Nat → Nat → Int} {i : Nat} {load to an st ra hd le : Int} {n : Nat} (h : vdF σ load (cpF (σ (3 + i)) ra (σ 1 5)) (σ (3 + i) 0) hd = 0) (e : ¬ ra = to) : tryR σ i load to an (n + 1) st ra hd le = tryR σ i load to an n (st + 1) (if ra < to then ra + 1 else ra + -1) hd (mnI le (cpF (σ (3 + i)) ra (σ 1 5))) := (if_pos h).trans (if_neg e)
section ZN
variable {p : Program} {l : Launch} {e : Env} {R : Room} {s : State} {m : MethodId} {args : Array Value} {below : List Frame} {meth : Method} {H H0 : Heap} {locs : List Loc} {cells slots : Nat} {Q : State → Prop} {cc : ByteArray} {pc : Nat} {ls : Array Slot} {rest : List Value} {D : va_G} {cl : List vw_C} {A : Nat → Prop} {tys : List (ClassId × FieldType)} {ws : va_W}
/-- a new object (after the kit's va_new; it says besides that the old cells stay) -/
theorem w_new {c0 : Code} (hexec : p.tables.exec = Jvm.exec) (hb : c0.code = cc) {own C : String} {T : u_T} {N ci index : Nat} {Ts : List Cond} (hts : ∀ w ∈ Ts, w.before args s = true) (hin : ∀ w ∈ u_ws C T N, w ∈ Ts) (ty : Nat → FieldType) (hty : ∀ k, k < N → parseFieldDescriptor (T k).2.2.1 = some (ty k)) (hown : s.vm.findClass own = some m.cls) (hcl : (Cond.classLink own index C).before args s = true) (hinst : (Cond.instantiable C N).before args s = true) (hini : (Cond.initialized C).before args s = true)
    (hK : va_K D cl tys s) (hP : va_P D cl ws H) (hD : va_D A ws) (hS : va_S A H0 H locs) (hA : ∀ q, H0.size ≤ q → A q) (hc : cl[ci]? = some (C, T, N)) {fs : List Value} (hfs : ∀ j, j < N → defaultValue (ty j) = vp_V fs j) (hcells : cells + 1 ≤ R.cells) (hslots : slots + N ≤ R.slots) (hdg : decode cc pc = .ok (.new index, 3))
    (kk : ∀ (q : Nat) (H1 : Heap), q = H.size → H1.size = H.size + 1 → (∀ x : Nat, x < H.size → H1[x]? = H[x]?) → va_P D cl (ws ++ [(q, .inr (ci, fs))]) H1 → va_D A (ws ++ [(q, .inr (ci, fs))]) → va_S A H0 H1 locs →
      W p l e R s m args below meth c0 H1 locs (cells + 1) (slots + N) Q (F0 m (pc + 3) ls (.ref q :: rest))) : W p l e R s m args below meth c0 H locs cells slots Q (F0 m pc ls rest) := by
  have hKn := hK.1 ci _ hc
  refine W.newcK hexec hb hown hcl hinst hini rfl hdg hcells hslots hKn.2.1 rfl fun H1 kC hkC e1 z1 o1 => ?_
  have hk : ∀ (k : Nat) (x : Nat × va_E), ws[k]? = some x → H1[x.1]? = H[x.1]? := fun k x hx => o1 x.1 ((hP k x hx).lt)
  refine kk H.size H1 rfl z1 o1 ((hP.kept hk).app (fun k x hx => ?_)) (hD.push hP rfl (hA _ hS.1)) ⟨Nat.le_trans hS.1 (by omega), fun x h1 h2 => (o1 x (Nat.lt_of_lt_of_le h1 hS.1)).trans (hS.2.1 x h1 h2), hS.2.2⟩
  have hz : k < 1 := (List.getElem?_eq_some_iff.mp hx).1
  rw [show k = 0 by omega] at hx
  cases hx
  exact ⟨_, hc, (u_born ty hts hin hKn hkC e1 hty).to hfs⟩
end ZN
set_option maxHeartbeats 4000000 in
set_option maxRecDepth 100000 in
/-- Trial(v1, v2, v3): the three fields -/
theorem c_X4_init (l : Launch) (D : va_G) (h0 sz : Nat) (v1 v2 v3 : Int) : Met l yX4_init wsX4_init ({ frames := 7, cells := 0, slots := 0, locals := 100 }) (va_Pc [.ref h0, .int (zI v1), .int (zI v2), .int (zI v3)] (fun U => U.heap.size = sz ∧ va_P D vwCl [(h0, .inr (6, fT (0, 0, 0)))] U.heap ∧ va_K D vwCl [] U ∧ va_D (fun _ => True) [(h0, .inr (6, fT (0, 0, 0)))])) (va_Qv (fun _ : Unit => True) (fun _ t => va_P D vwCl [(h0, .inr (6, fT (v1, v2, v3)))] t.heap) (va_A [(h0, .inr (6, fT (0, 0, 0)))] sz)) 0 0 (va_A [(h0, .inr (6, fT (0, 0, 0)))] sz) := by
  refine Met.ofW (cc := cX4_init) (maxL := 4) (ret := none) (by decide) rfl ?_
  intro p e s m args below meth c s₁ B hml hv
  obtain ⟨rfl, hsz, hP, hK, hD0⟩ := hv
  have hx := B.exec
  have hb := B.bytes
  have hr := B.returns
  have hts := atoms_spec (ws := wsX4_init) B.pre
  have hown : s.vm.findClass RX4 = some m.cls := findClass_of_methodNamed B.named
  have hlocks := B.notSynchronized
  have hin : meth.name = "<init>" := (name_of_methodNamed B.named B.method).1
  subst hsz
  have hD := hD0.self (sz := s.heap.size)
  generalize hAe : va_A [(h0, .inr (6, fT (0, 0, 0)))] s.heap.size = A at hD ⊢
  have hA : ∀ q : Nat, s.heap.size ≤ q → A q := fun q h => by rw [← hAe]; exact Or.inr h
  have hS : va_S A s.heap s.heap [] := va_S.rf
  have hl := lv_entry ([.ref h0, .int (zI v1), .int (zI v2), .int (zI v3)]) (n := 4) (Nat.le_of_ble_eq_true rfl)
  rw [lg_entry_eq]
  generalize (lg_sl ([.ref h0, .int (zI v1), .int (zI v2), .int (zI v3)]) ++ List.replicate (4 - (lg_sl ([.ref h0, .int (zI v1), .int (zI v2), .int (zI v3)])).length) Slot.unset).toArray = ls at hl ⊢
  have hl : lv_has ls 4 [(0, .ref h0), (1, .int (zI v1)), (2, .int (zI v2)), (3, .int (zI v3))] := hl
  have inX4 : ∀ w ∈ u_ws RX4 TX4 3, w ∈ wsX4_init := by decide +kernel
  refine lv_aload_n hx hb dX4_init_0 rfl (lv_at hl 0 rfl) ?_
  refine W.objInit hx hb hown (hts (.methodLink RX4 1 objectInit) (by decide +kernel)) (hts (.instanceMethod objectInit) (by decide +kernel)) (hts (.code objectInit ⟨#[0xb1]⟩ 1 none) (by decide +kernel)) rfl (by rw [hml]; exact hl.1) rfl dX4_init_1 (Nat.le_of_ble_eq_true rfl) (Nat.le_of_ble_eq_true rfl) ?_
  refine W.eq (g2 := F0 m 4 ls []) rfl ?_
  refine lv_aload_n hx hb dX4_init_4 rfl (lv_at hl 0 rfl) ?_
  refine lv_iload_n hx hb dX4_init_5 rfl (lv_at hl 1 rfl) ?_
  refine va_putF (D := D) (ci := 6) (v := .int (zI v1)) (ty := .int) (C := RX4) (T := TX4) (N := 3) hx hb hts inX4 tyX4 tyX4_ok nmX4 hown hK hP hD hS 0 rfl rfl 0 (by decide) (hts (.fieldLink RX4 7 "Slewfree$Trial" "verdict" "I") (by decide +kernel)) (fun _ h9 => h9) rfl hin rfl (by decide +kernel) rfl rfl (Nat.le_of_ble_eq_true rfl) dX4_init_6 (fun H locs hP hD hS => ?_)
  refine lv_aload_n hx hb dX4_init_9 rfl (lv_at hl 0 rfl) ?_
  refine lv_iload_n hx hb dX4_init_10 rfl (lv_at hl 2 rfl) ?_
  refine va_putF (D := D) (ci := 6) (v := .int (zI v2)) (ty := .int) (C := RX4) (T := TX4) (N := 3) hx hb hts inX4 tyX4 tyX4_ok nmX4 hown hK hP hD hS 0 rfl rfl 1 (by decide) (hts (.fieldLink RX4 13 "Slewfree$Trial" "refusedStep" "I") (by decide +kernel)) (fun _ h9 => h9) rfl hin rfl (by decide +kernel) rfl rfl (Nat.le_of_ble_eq_true rfl) dX4_init_11 (fun H locs hP hD hS => ?_)
  refine lv_aload_n hx hb dX4_init_14 rfl (lv_at hl 0 rfl) ?_
  refine lv_iload_n hx hb dX4_init_15 rfl (lv_at hl 3 rfl) ?_
  refine va_putF (D := D) (ci := 6) (v := .int (zI v3)) (ty := .int) (C := RX4) (T := TX4) (N := 3) hx hb hts inX4 tyX4 tyX4_ok nmX4 hown hK hP hD hS 0 rfl rfl 2 (by decide) (hts (.fieldLink RX4 16 "Slewfree$Trial" "leastCapacity" "I") (by decide +kernel)) (fun _ h9 => h9) rfl hin rfl (by decide +kernel) rfl rfl (Nat.le_of_ble_eq_true rfl) dX4_init_16 (fun H locs hP hD hS => ?_)
  have hP : va_P D vwCl [(h0, .inr (6, fT (v1, v2, v3)))] H := hP
  exact W.vret hx hb hr (fun t ht hW => ⟨⟨(), rfl, trivial, by show va_P D vwCl _ t.heap; rw [ht]; exact hP⟩, hS.F ht⟩) hS.2.2 dX4_init_19
