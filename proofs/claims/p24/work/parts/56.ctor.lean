/-! THE CONSTRUCTORS: the site's cells come in the order of the world -/
def nW (D : va_G) (A : Nat → Prop) (ws : va_W) (U : State) : Prop := va_P D vwCl ws U.heap ∧ va_D A ws ∧ va_K D vwCl [] U
theorem nW_mk {D : va_G} {A : Nat → Prop} {ws : va_W} {s U : State} {H : Heap} {tys : List (ClassId × FieldType)} (hP : va_P D vwCl ws H) (hD : va_D A ws) (hK : va_K D vwCl tys s) (hU : U.heap = H) (hW : s.WarmedH U.vm) : nW D A ws U := ⟨by rw [hU]; exact hP, hD, va_K.moved hW.alike (hK.sub [] rfl)⟩
theorem nW_blind {D : va_G} {A : Nat → Prop} {ws : va_W} {av : List Value} {sz : Nat} : FrameBlind (va_Pc av (fun U => U.heap.size = sz ∧ nW D A ws U)) := fun v U g mk h => ⟨h.1, h.2.1, h.2.2.1, h.2.2.2.1, va_K.moved (u := U) (U := U.calling g mk v) (Vm.Alike.refl U.vm) h.2.2.2.2⟩
def upN {T : Type} (f : Nat → T) (k : Nat) (x : T) : Nat → T := fun i => if i = k then x else f i
theorem upN_s {T : Type} (f : Nat → T) (k : Nat) (x : T) : upN f k x k = x := if_pos rfl
theorem upN_n {T : Type} {f : Nat → T} {k i : Nat} {x : T} (h : i ≠ k) : upN f k x i = f i := if_neg h
def pw (n : Nat) (a : Nat → Nat) (E : Nat → va_E) : va_W := (List.range n).map (fun k => (a k, E k))
theorem pw_len {n : Nat} {a : Nat → Nat} {E : Nat → va_E} : (pw n a E).length = n := by simp [pw]
theorem pw_get {n k : Nat} {a : Nat → Nat} {E : Nat → va_E} (h : k < n) : (pw n a E)[k]? = some (a k, E k) := by simp [pw, h]
theorem pw_app {n : Nat} {a : Nat → Nat} {E : Nat → va_E} {x : Nat} {e : va_E} : pw n a E ++ [(x, e)] = pw (n + 1) (upN a n x) (upN E n e) := by
  apply List.ext_getElem?
  intro j
  by_cases hj : j < n
  · rw [List.getElem?_append_left (by rw [pw_len]; exact hj), pw_get hj, pw_get (by omega), upN_n (by omega), upN_n (by omega)]
  · by_cases e : j = n
    · subst e
      rw [List.getElem?_append_right (by rw [pw_len]; exact Nat.le_refl _), pw_len, Nat.sub_self, pw_get (by omega), upN_s, upN_s]
      rfl
    · rw [List.getElem?_eq_none (by rw [List.length_append, pw_len]; show n + 1 ≤ j; omega), List.getElem?_eq_none (by rw [pw_len]; omega)]
theorem pw_set {n k x : Nat} {a : Nat → Nat} {E : Nat → va_E} {e : va_E} (hx : a k = x) (hk : k < n) : (pw n a E).set k (x, e) = pw n a (upN E k e) := by
  subst hx
  apply List.ext_getElem?
  intro j
  by_cases hj : j < n
  · rw [List.getElem?_set, pw_get hj]
    by_cases e9 : k = j
    · subst e9
      rw [if_pos rfl, if_pos (by rw [pw_len]; exact hk), pw_get hj, upN_s]
    · rw [if_neg e9, pw_get hj, upN_n (fun z => e9 z.symm)]
  · rw [List.getElem?_eq_none (by rw [List.length_set, pw_len]; omega), List.getElem?_eq_none (by rw [pw_len]; omega)]
theorem pw_wd {a : Nat → Nat} {E : Nat → va_E} {A : Nat → Prop} {cy : Nat → ClassId} {q : Nat → Nat} {σ : Nat → Nat → Int} (h : va_D A (pw 62 a E)) : va_D A (wld cy a q σ) := by
  have conv : ∀ (k : Nat) (x : Nat × va_E), (wld cy a q σ)[k]? = some x → ∃ y, (pw 62 a E)[k]? = some y ∧ y.1 = x.1 := by
    intro k x hx
    obtain ⟨hk, rfl⟩ := wld_inv hx
    exact ⟨_, pw_get hk, rfl⟩
  refine ⟨fun i j x y hi hj e => ?_, fun k x hk => ?_⟩
  · obtain ⟨x', h1, e1⟩ := conv i x hi
    obtain ⟨y', h2, e2⟩ := conv j y hj
    exact h.1 i j x' y' h1 h2 (by rw [e1, e2, e])
  · obtain ⟨x', h1, e1⟩ := conv k x hk
    rw [← e1]
    exact h.2 k x' h1
theorem va_at_q {D : va_G} {cA : ClassId} {x n : Nat} {f g : Nat → Option Nat} {H : Heap} (h : va_at D vwCl (x, .inl (cA, n, .inr (.inr (.inr (.inr f))))) H) (hfg : ∀ j, j < n → f j = g j) : va_at D vwCl (x, .inl (cA, n, .inr (.inr (.inr (.inr g))))) H := by
  have e : arrV cA n (fun j => va_rf (f j)) = arrV cA n (fun j => va_rf (g j)) := by
    unfold arrV
    rw [show (fun j : Fin n => va_rf (f j.val)) = fun j => va_rf (g j.val) from funext fun j => by rw [hfg j.val j.isLt]]
  have h1 : H[x]? = some (arrV cA n (fun j => va_rf (f j))) := h
  show H[x]? = some (arrV cA n (fun j => va_rf (g j)))
  rw [← e]
  exact h1
set_option maxHeartbeats 1000000 in
set_option maxRecDepth 100000 in
/-- X5_init -/
theorem c_X5_init (l : Launch) (D : va_G) (A : Nat → Prop) (sz : Nat) (hA : ∀ y : Nat, sz ≤ y → A y) (ws : va_W) (o : Nat) (ko : Nat) (eo : ws[ko]? = some ((o, .inr (7, [.int (zI (0)), .int (zI (0)), .int (zI (0)), .int (zI (0)), .int (zI (0)), .int (zI (0)), .int (zI (0))])) : Nat × va_E)) : Met l yX5_init wsX5_init ({ frames := 7, cells := 0, slots := 0, locals := 100 }) (va_Pc [.ref (o)] (fun U => U.heap.size = sz ∧ nW D A ws U)) (va_Qv (fun (u : Unit) => True) (fun u t => va_P D vwCl (ws.set ko ((o, .inr (7, [.int (zI (0)), .int (zI (31)), .int (zI (0)), .int (zI (0)), .int (zI (0)), .int (zI (0)), .int (zI (0))])) : Nat × va_E)) t.heap ∧ va_D A (ws.set ko ((o, .inr (7, [.int (zI (0)), .int (zI (31)), .int (zI (0)), .int (zI (0)), .int (zI (0)), .int (zI (0)), .int (zI (0))])) : Nat × va_E))) A) 0 0 A := by
  refine Met.ofW (cc := cX5_init) (maxL := 1) (ret := none) (by decide) rfl ?_
  intro p e s m args below meth c s₁ B hml hpc0
  obtain ⟨rfl, hsz, hP, hD, hK⟩ := hpc0
  have hx := B.exec
  have hb := B.bytes
  have hr := B.returns
  have hts := atoms_spec (ws := wsX5_init) B.pre
  have hown : s.vm.findClass RX5 = some m.cls := findClass_of_methodNamed B.named
  have hlocks := B.notSynchronized
  have hin : meth.name = "<init>" := (name_of_methodNamed B.named B.method).1
  subst hsz
  have hS : va_S A s.heap s.heap [] := va_S.rf
  have hk0 : ∀ x : Nat, x < s.heap.size → s.heap[x]? = s.heap[x]? := fun _ _ => rfl
  have hl := lv_entry ([.ref (o)]) (n := 1) (Nat.le_of_ble_eq_true rfl)
  rw [lg_entry_eq]
  generalize (lg_sl ([.ref (o)]) ++ List.replicate (1 - (lg_sl ([.ref (o)])).length) Slot.unset).toArray = ls at hl ⊢
  have hl : lv_has ls 1 [(0, .ref (o))] := hl
  have k9 := hts (.fieldLink RX5 9 "Slewfree$Weather" "luck" "I") (by decide +kernel)
  have inX5 : ∀ w ∈ u_ws RX5 TX5 7, w ∈ wsX5_init := by decide +kernel
  refine lv_aload_n hx hb dX5_init_0 rfl (lv_at hl 0 rfl) ?_
  refine W.objInit hx hb hown (hts (.methodLink RX5 3 objectInit) (by decide +kernel)) (hts (.instanceMethod objectInit) (by decide +kernel)) (hts (.code objectInit ⟨#[0xb1]⟩ 1 none) (by decide +kernel)) rfl (by rw [hml]; exact hl.1) rfl dX5_init_1 (Nat.le_of_ble_eq_true rfl) (Nat.le_of_ble_eq_true rfl) ?_
  refine W.eq (g2 := F0 m 4 ls []) rfl ?_
  refine lv_aload_n hx hb dX5_init_4 rfl (lv_at hl 0 rfl) ?_
  refine lv_bipush (v := zI 31) hx hb dX5_init_5 (by decide +kernel) ?_
  refine va_put (D := D) (ci := 7) (v := .int (zI (31))) (ty := .int) (C := RX5) (T := TX5) (N := 7) hx hb hts inX5 tyX5 tyX5_ok nmX5 hown hK hP hD hS ko eo rfl 1 (by decide) k9 (fun _ h9 => h9) rfl (by decide +kernel) rfl rfl (Nat.le_of_ble_eq_true rfl) dX5_init_7 (fun H locs hP hD hS => ?_)
  obtain ⟨w7, ew7⟩ : ∃ z9 : va_W, z9 = ws.set ko ((o, .inr (7, [.int (zI (0)), .int (zI (31)), .int (zI (0)), .int (zI (0)), .int (zI (0)), .int (zI (0)), .int (zI (0))])) : Nat × va_E) := ⟨_, rfl⟩
  have hP : va_P D vwCl (ws.set ko ((o, .inr (7, [.int (zI (0)), .int (zI (31)), .int (zI (0)), .int (zI (0)), .int (zI (0)), .int (zI (0)), .int (zI (0))])) : Nat × va_E)) H := hP
  have hD : va_D A (ws.set ko ((o, .inr (7, [.int (zI (0)), .int (zI (31)), .int (zI (0)), .int (zI (0)), .int (zI (0)), .int (zI (0)), .int (zI (0))])) : Nat × va_E)) := hD
  rw [← ew7] at hP hD
  have eo_w7 : w7[ko]? = some ((o, .inr (7, [.int (zI (0)), .int (zI (31)), .int (zI (0)), .int (zI (0)), .int (zI (0)), .int (zI (0)), .int (zI (0))])) : Nat × va_E) := by rw [ew7]; exact js_eq eo
  have eW : w7 = (ws.set ko ((o, .inr (7, [.int (zI (0)), .int (zI (31)), .int (zI (0)), .int (zI (0)), .int (zI (0)), .int (zI (0)), .int (zI (0))])) : Nat × va_E)) := by rw [ew7]
  rw [eW] at hP hD
  exact W.vret hx hb hr (fun t9 ht hW => ⟨⟨(), rfl, trivial, by show va_P D vwCl _ t9.heap; rw [ht]; exact hP, hD⟩, hS.F ht⟩) hS.2.2 dX5_init_10

set_option maxHeartbeats 1000000 in
set_option maxRecDepth 100000 in
/-- X0_init -/
theorem c_X0_init (l : Launch) (D : va_G) (A : Nat → Prop) (sz : Nat) (hA : ∀ y : Nat, sz ≤ y → A y) (ws : va_W) (o : Nat) (nb : Int) (ko : Nat) (eo : ws[ko]? = some ((o, .inr (2, [.int (zI (0)), .int (zI (0)), .int (zI (0)), .int (zI (0)), .int (zI (0)), .int (zI (0)), .int (zI (0)), .int (zI (0)), .int (zI (0)), .int (zI (0)), .int (zI (0)), .int (zI (0))])) : Nat × va_E)) : Met l yX0_init wsX0_init ({ frames := 7, cells := 0, slots := 0, locals := 100 }) (va_Pc [.ref (o), .int (zI (nb))] (fun U => U.heap.size = sz ∧ nW D A ws U)) (va_Qv (fun (u : Unit) => True) (fun u t => va_P D vwCl (ws.set ko ((o, .inr (2, [.int (zI (nb)), .int (zI (0)), .int (zI (0)), .int (zI (0)), .int (zI (0)), .int (zI (0)), .int (zI (0)), .int (zI (0)), .int (zI (0)), .int (zI (0)), .int (zI (0)), .int (zI (0))])) : Nat × va_E)) t.heap ∧ va_D A (ws.set ko ((o, .inr (2, [.int (zI (nb)), .int (zI (0)), .int (zI (0)), .int (zI (0)), .int (zI (0)), .int (zI (0)), .int (zI (0)), .int (zI (0)), .int (zI (0)), .int (zI (0)), .int (zI (0)), .int (zI (0))])) : Nat × va_E))) A) 0 0 A := by
  refine Met.ofW (cc := cX0_init) (maxL := 2) (ret := none) (by decide) rfl ?_
  intro p e s m args below meth c s₁ B hml hpc0
  obtain ⟨rfl, hsz, hP, hD, hK⟩ := hpc0
  have hx := B.exec
  have hb := B.bytes
  have hr := B.returns
  have hts := atoms_spec (ws := wsX0_init) B.pre
  have hown : s.vm.findClass RX0 = some m.cls := findClass_of_methodNamed B.named
  have hlocks := B.notSynchronized
  have hin : meth.name = "<init>" := (name_of_methodNamed B.named B.method).1
  subst hsz
  have hS : va_S A s.heap s.heap [] := va_S.rf
  have hk0 : ∀ x : Nat, x < s.heap.size → s.heap[x]? = s.heap[x]? := fun _ _ => rfl
  have hl := lv_entry ([.ref (o), .int (zI (nb))]) (n := 2) (Nat.le_of_ble_eq_true rfl)
  rw [lg_entry_eq]
  generalize (lg_sl ([.ref (o), .int (zI (nb))]) ++ List.replicate (2 - (lg_sl ([.ref (o), .int (zI (nb))])).length) Slot.unset).toArray = ls at hl ⊢
  have hl : lv_has ls 2 [(0, .ref (o)), (1, .int (zI (nb)))] := hl
  have k9 := hts (.fieldLink RX0 9 "Slewfree$Crane" "number" "I") (by decide +kernel)
  have inX0 : ∀ w ∈ u_ws RX0 TX0 12, w ∈ wsX0_init := by decide +kernel
  refine lv_aload_n hx hb dX0_init_0 rfl (lv_at hl 0 rfl) ?_
  refine W.objInit hx hb hown (hts (.methodLink RX0 3 objectInit) (by decide +kernel)) (hts (.instanceMethod objectInit) (by decide +kernel)) (hts (.code objectInit ⟨#[0xb1]⟩ 1 none) (by decide +kernel)) rfl (by rw [hml]; exact hl.1) rfl dX0_init_1 (Nat.le_of_ble_eq_true rfl) (Nat.le_of_ble_eq_true rfl) ?_
  refine W.eq (g2 := F0 m 4 ls []) rfl ?_
  refine lv_aload_n hx hb dX0_init_4 rfl (lv_at hl 0 rfl) ?_
  refine lv_iload_n hx hb dX0_init_5 rfl (lv_at hl 1 rfl) ?_
  refine va_putF (D := D) (ci := 2) (v := .int (zI (nb))) (ty := .int) (C := RX0) (T := TX0) (N := 12) hx hb hts inX0 tyX0 tyX0_ok nmX0 hown hK hP hD hS ko eo rfl 0 (by decide) k9 (fun _ h9 => h9) rfl hin rfl (by decide +kernel) rfl rfl (Nat.le_of_ble_eq_true rfl) dX0_init_6 (fun H locs hP hD hS => ?_)
  obtain ⟨w6, ew6⟩ : ∃ z9 : va_W, z9 = ws.set ko ((o, .inr (2, [.int (zI (nb)), .int (zI (0)), .int (zI (0)), .int (zI (0)), .int (zI (0)), .int (zI (0)), .int (zI (0)), .int (zI (0)), .int (zI (0)), .int (zI (0)), .int (zI (0)), .int (zI (0))])) : Nat × va_E) := ⟨_, rfl⟩
  have hP : va_P D vwCl (ws.set ko ((o, .inr (2, [.int (zI (nb)), .int (zI (0)), .int (zI (0)), .int (zI (0)), .int (zI (0)), .int (zI (0)), .int (zI (0)), .int (zI (0)), .int (zI (0)), .int (zI (0)), .int (zI (0)), .int (zI (0))])) : Nat × va_E)) H := hP
  have hD : va_D A (ws.set ko ((o, .inr (2, [.int (zI (nb)), .int (zI (0)), .int (zI (0)), .int (zI (0)), .int (zI (0)), .int (zI (0)), .int (zI (0)), .int (zI (0)), .int (zI (0)), .int (zI (0)), .int (zI (0)), .int (zI (0))])) : Nat × va_E)) := hD
  rw [← ew6] at hP hD
  have eo_w6 : w6[ko]? = some ((o, .inr (2, [.int (zI (nb)), .int (zI (0)), .int (zI (0)), .int (zI (0)), .int (zI (0)), .int (zI (0)), .int (zI (0)), .int (zI (0)), .int (zI (0)), .int (zI (0)), .int (zI (0)), .int (zI (0))])) : Nat × va_E) := by rw [ew6]; exact js_eq eo
  have eW : w6 = (ws.set ko ((o, .inr (2, [.int (zI (nb)), .int (zI (0)), .int (zI (0)), .int (zI (0)), .int (zI (0)), .int (zI (0)), .int (zI (0)), .int (zI (0)), .int (zI (0)), .int (zI (0)), .int (zI (0)), .int (zI (0))])) : Nat × va_E)) := by rw [ew6]
  rw [eW] at hP hD
  exact W.vret hx hb hr (fun t9 ht hW => ⟨⟨(), rfl, trivial, by show va_P D vwCl _ t9.heap; rw [ht]; exact hP, hD⟩, hS.F ht⟩) hS.2.2 dX0_init_9

set_option maxHeartbeats 1000000 in
set_option maxRecDepth 100000 in
/-- X6_init -/
theorem c_X6_init (l : Launch) (D : va_G) (A : Nat → Prop) (sz : Nat) (hA : ∀ y : Nat, sz ≤ y → A y) (ws : va_W) (o : Nat) (ko : Nat) (eo : ws[ko]? = some ((o, .inr (8, [.int (zI (0)), .int (zI (0)), .int (zI (0)), .int (zI (0)), .int (zI (0))])) : Nat × va_E)) : Met l yX6_init wsX6_init ({ frames := 7, cells := 0, slots := 0, locals := 100 }) (va_Pc [.ref (o)] (fun U => U.heap.size = sz ∧ nW D A ws U)) (va_Qv (fun (_ : Unit) => True) (fun _ _ => True) (fun _ => False)) 0 0 A := by
  refine Met.ofW (cc := cX6_init) (maxL := 1) (ret := none) (by decide) rfl ?_
  intro p e s m args below meth c s₁ B hml hpc0
  obtain ⟨rfl, hsz, hP, hD, hK⟩ := hpc0
  have hx := B.exec
  have hb := B.bytes
  have hr := B.returns
  have hts := atoms_spec (ws := wsX6_init) B.pre
  have hown : s.vm.findClass RX6 = some m.cls := findClass_of_methodNamed B.named
  have hlocks := B.notSynchronized
  have hin : meth.name = "<init>" := (name_of_methodNamed B.named B.method).1
  subst hsz
  have hS : va_S A s.heap s.heap [] := va_S.rf
  have hk0 : ∀ x : Nat, x < s.heap.size → s.heap[x]? = s.heap[x]? := fun _ _ => rfl
  have hl := lv_entry ([.ref (o)]) (n := 1) (Nat.le_of_ble_eq_true rfl)
  rw [lg_entry_eq]
  generalize (lg_sl ([.ref (o)]) ++ List.replicate (1 - (lg_sl ([.ref (o)])).length) Slot.unset).toArray = ls at hl ⊢
  have hl : lv_has ls 1 [(0, .ref (o))] := hl
  refine lv_aload_n hx hb dX6_init_0 rfl (lv_at hl 0 rfl) ?_
  refine W.objInit hx hb hown (hts (.methodLink RX6 1 objectInit) (by decide +kernel)) (hts (.instanceMethod objectInit) (by decide +kernel)) (hts (.code objectInit ⟨#[0xb1]⟩ 1 none) (by decide +kernel)) rfl (by rw [hml]; exact hl.1) rfl dX6_init_1 (Nat.le_of_ble_eq_true rfl) (Nat.le_of_ble_eq_true rfl) ?_
  refine W.eq (g2 := F0 m 4 ls []) rfl ?_
  exact W.vret hx hb hr (fun t9 ht hW => ⟨⟨(), rfl, trivial, trivial⟩, vF_R ht hS.1 hk0⟩) hS.2.2 dX6_init_4

set_option maxHeartbeats 1000000 in
set_option maxRecDepth 100000 in
/-- X2_init -/
theorem c_X2_init (l : Launch) (D : va_G) (A : Nat → Prop) (sz : Nat) (hA : ∀ y : Nat, sz ≤ y → A y) (ws : va_W) (o : Nat) (ko : Nat) (eo : ws[ko]? = some ((o, .inr (4, [.int (zI (0)), .int (zI (0)), .int (zI (0)), .int (zI (0))])) : Nat × va_E)) : Met l yX2_init wsX2_init ({ frames := 7, cells := 0, slots := 0, locals := 100 }) (va_Pc [.ref (o)] (fun U => U.heap.size = sz ∧ nW D A ws U)) (va_Qv (fun (_ : Unit) => True) (fun _ _ => True) (fun _ => False)) 0 0 A := by
  refine Met.ofW (cc := cX2_init) (maxL := 1) (ret := none) (by decide) rfl ?_
  intro p e s m args below meth c s₁ B hml hpc0
  obtain ⟨rfl, hsz, hP, hD, hK⟩ := hpc0
  have hx := B.exec
  have hb := B.bytes
  have hr := B.returns
  have hts := atoms_spec (ws := wsX2_init) B.pre
  have hown : s.vm.findClass RX2 = some m.cls := findClass_of_methodNamed B.named
  have hlocks := B.notSynchronized
  have hin : meth.name = "<init>" := (name_of_methodNamed B.named B.method).1
  subst hsz
  have hS : va_S A s.heap s.heap [] := va_S.rf
  have hk0 : ∀ x : Nat, x < s.heap.size → s.heap[x]? = s.heap[x]? := fun _ _ => rfl
  have hl := lv_entry ([.ref (o)]) (n := 1) (Nat.le_of_ble_eq_true rfl)
  rw [lg_entry_eq]
  generalize (lg_sl ([.ref (o)]) ++ List.replicate (1 - (lg_sl ([.ref (o)])).length) Slot.unset).toArray = ls at hl ⊢
  have hl : lv_has ls 1 [(0, .ref (o))] := hl
  refine lv_aload_n hx hb dX2_init_0 rfl (lv_at hl 0 rfl) ?_
  refine W.objInit hx hb hown (hts (.methodLink RX2 1 objectInit) (by decide +kernel)) (hts (.instanceMethod objectInit) (by decide +kernel)) (hts (.code objectInit ⟨#[0xb1]⟩ 1 none) (by decide +kernel)) rfl (by rw [hml]; exact hl.1) rfl dX2_init_1 (Nat.le_of_ble_eq_true rfl) (Nat.le_of_ble_eq_true rfl) ?_
  refine W.eq (g2 := F0 m 4 ls []) rfl ?_
  exact W.vret hx hb hr (fun t9 ht hW => ⟨⟨(), rfl, trivial, trivial⟩, vF_R ht hS.1 hk0⟩) hS.2.2 dX2_init_4

set_option maxHeartbeats 1000000 in
set_option maxRecDepth 100000 in
/-- X3_init -/
theorem c_X3_init (l : Launch) (D : va_G) (A : Nat → Prop) (sz : Nat) (hA : ∀ y : Nat, sz ≤ y → A y) (ws : va_W) (o : Nat) (ko : Nat) (eo : ws[ko]? = some ((o, .inr (5, [.int (zI (0)), .int (zI (0)), .int (zI (0)), .int (zI (0)), .int (zI (0)), .int (zI (0)), .int (zI (0))])) : Nat × va_E)) : Met l yX3_init wsX3_init ({ frames := 7, cells := 0, slots := 0, locals := 100 }) (va_Pc [.ref (o)] (fun U => U.heap.size = sz ∧ nW D A ws U)) (va_Qv (fun (_ : Unit) => True) (fun _ _ => True) (fun _ => False)) 0 0 A := by
  refine Met.ofW (cc := cX3_init) (maxL := 1) (ret := none) (by decide) rfl ?_
  intro p e s m args below meth c s₁ B hml hpc0
  obtain ⟨rfl, hsz, hP, hD, hK⟩ := hpc0
  have hx := B.exec
  have hb := B.bytes
  have hr := B.returns
  have hts := atoms_spec (ws := wsX3_init) B.pre
  have hown : s.vm.findClass RX3 = some m.cls := findClass_of_methodNamed B.named
  have hlocks := B.notSynchronized
  have hin : meth.name = "<init>" := (name_of_methodNamed B.named B.method).1
  subst hsz
  have hS : va_S A s.heap s.heap [] := va_S.rf
  have hk0 : ∀ x : Nat, x < s.heap.size → s.heap[x]? = s.heap[x]? := fun _ _ => rfl
  have hl := lv_entry ([.ref (o)]) (n := 1) (Nat.le_of_ble_eq_true rfl)
  rw [lg_entry_eq]
  generalize (lg_sl ([.ref (o)]) ++ List.replicate (1 - (lg_sl ([.ref (o)])).length) Slot.unset).toArray = ls at hl ⊢
  have hl : lv_has ls 1 [(0, .ref (o))] := hl
  refine lv_aload_n hx hb dX3_init_0 rfl (lv_at hl 0 rfl) ?_
  refine W.objInit hx hb hown (hts (.methodLink RX3 3 objectInit) (by decide +kernel)) (hts (.instanceMethod objectInit) (by decide +kernel)) (hts (.code objectInit ⟨#[0xb1]⟩ 1 none) (by decide +kernel)) rfl (by rw [hml]; exact hl.1) rfl dX3_init_1 (Nat.le_of_ble_eq_true rfl) (Nat.le_of_ble_eq_true rfl) ?_
  refine W.eq (g2 := F0 m 4 ls []) rfl ?_
  exact W.vret hx hb hr (fun t9 ht hW => ⟨⟨(), rfl, trivial, trivial⟩, vF_R ht hS.1 hk0⟩) hS.2.2 dX3_init_4
set_option maxHeartbeats 1000000 in
set_option maxRecDepth 100000 in
theorem c_X1_init (l : Launch) (D : va_G) (A : Nat → Prop) (sz : Nat) (hA : ∀ y : Nat, sz ≤ y → A y) (a0 : Nat → Nat) (E0 : Nat → va_E) (e20 : E0 20 = .inr (3, [.null, .int (zI 0), .int (zI 0), .int (zI 0)])) : Met l yX1_init wsX1_init ({ frames := 8, cells := 41, slots := 320, locals := 200 }) (va_Pc [.ref (a0 20)] (fun U => U.heap.size = sz ∧ va_P D vwCl (pw 21 a0 E0) U.heap ∧ va_D A (pw 21 a0 E0) ∧ va_K D vwCl [] U ∧ va_AO RX3 U ∧ va_Nw (.methodLinkNest RX1 21 yX3_init RX7) U)) (va_Qv (fun (u : (Nat → Nat) × (Nat → va_E) × ClassId) => (∀ k, k < 21 → u.1 k = a0 k) ∧ (∀ k, k < 20 → u.2.1 k = E0 k) ∧ u.2.1 20 = .inr (3, [.ref (u.1 21), .int (zI 0), .int (zI 0), .int (zI 1)]) ∧ (∃ f : Nat → Option Nat, u.2.1 21 = .inl (u.2.2, 40, .inr (.inr (.inr (.inr f)))) ∧ ∀ j, j < 40 → f j = some (u.1 (22 + j))) ∧ ∀ j, j < 40 → u.2.1 (22 + j) = .inr (5, fP (fun _ => 0))) (fun u t => va_P D vwCl (pw 62 u.1 u.2.1) t.heap ∧ va_D A (pw 62 u.1 u.2.1) ∧ va_K D vwCl [(u.2.2, .object "Slewfree$Page")] t) A) 41 320 A := by
  refine Met.ofW (cc := cX1_init) (maxL := 2) (ret := none) (by decide) rfl ?_
  intro p e s m args below meth c s₁ B hml hpc0
  obtain ⟨rfl, hsz, hP, hD, hK, hOX3, hNX3⟩ := hpc0
  have hx := B.exec
  have hb := B.bytes
  have hr := B.returns
  have hts := atoms_spec (ws := wsX1_init) B.pre
  have hown : s.vm.findClass RX1 = some m.cls := findClass_of_methodNamed B.named
  have hlocks := B.notSynchronized
  have hin : meth.name = "<init>" := (name_of_methodNamed B.named B.method).1
  subst hsz
  have hS : va_S A s.heap s.heap [] := va_S.rf
  have hl := lv_entry ([.ref (a0 20)]) (n := 2) (Nat.le_of_ble_eq_true rfl)
  rw [lg_entry_eq]
  generalize (lg_sl ([.ref (a0 20)]) ++ List.replicate (2 - (lg_sl ([.ref (a0 20)])).length) Slot.unset).toArray = ls at hl ⊢
  have hl : lv_has ls 2 [(0, .ref (a0 20))] := hl
  have inX1 : ∀ w ∈ u_ws RX1 TX1 4, w ∈ wsX1_init := by decide +kernel
  have inX3 : ∀ w ∈ u_ws RX3 TX3 7, w ∈ wsX1_init := by decide +kernel
  have Fold_0 : ∀ j, j < 20 → E0 (0 + j) = E0 j := fun j hj => by rw [Nat.zero_add]
  have Flog_0 : E0 20 = .inr (3, [.null, .int (zI 0), .int (zI 0), .int (zI 0)]) := e20
  have Gold_0 : ∀ j, j < 20 → a0 (0 + j) = a0 j := fun j hj => by rw [Nat.zero_add]
  have Glog_0 : a0 20 = a0 20 := rfl
  refine lv_aload_n hx hb dX1_init_0 rfl (lv_at hl 0 rfl) ?_
  refine W.objInit hx hb hown (hts (.methodLink RX1 3 objectInit) (by decide +kernel)) (hts (.instanceMethod objectInit) (by decide +kernel)) (hts (.code objectInit ⟨#[0xb1]⟩ 1 none) (by decide +kernel)) rfl (by rw [hml]; exact hl.1) rfl dX1_init_1 (Nat.le_of_ble_eq_true rfl) (Nat.le_of_ble_eq_true rfl) ?_
  refine W.eq (g2 := F0 m 4 ls []) rfl ?_
  refine lv_aload_n hx hb dX1_init_4 rfl (lv_at hl 0 rfl) ?_
  refine lv_iconst (v := zI 1) hx hb dX1_init_5 rfl ?_
  have tlog_6 : (pw (21) a0 E0)[20]? = some ((a0 20, .inr (3, [.null, .int (zI 0), .int (zI 0), .int (zI 0)])) : Nat × va_E) := by rw [pw_get (by omega), Glog_0, Flog_0]
  refine va_put (D := D) (ci := 3) (v := .int (zI 1)) (ty := .int) (C := RX1) (T := TX1) (N := 4) hx hb hts inX1 tyX1 tyX1_ok nmX1 hown hK hP hD hS 20 tlog_6 rfl 3 (by decide) (hts (.fieldLink RX1 11 "Slewfree$Log" "lastSeal" "I") (by decide +kernel)) (fun _ h9 => h9) rfl (by decide +kernel) rfl rfl (Nat.le_of_ble_eq_true rfl) dX1_init_6 (fun H locs hP hD hS => ?_)
  have hP : va_P D vwCl ((pw (21) a0 E0).set 20 (a0 20, .inr (3, [.null, .int (zI 0), .int (zI 0), .int (zI 1)]))) H := hP
  have hD : va_D A ((pw (21) a0 E0).set 20 (a0 20, .inr (3, [.null, .int (zI 0), .int (zI 0), .int (zI 1)]))) := hD
  rw [pw_set Glog_0 (by omega)] at hP hD
  obtain ⟨E6, hE6⟩ : ∃ z : Nat → va_E, z = upN E0 20 (.inr (3, [.null, .int (zI 0), .int (zI 0), .int (zI 1)])) := ⟨_, rfl⟩
  rw [← hE6] at hP hD
  have Fold_E6 : ∀ j, j < 20 → E6 (0 + j) = E0 j := fun j hj => by rw [hE6, upN_n (by omega)]; exact Fold_0 j hj
  have Flog_E6 : E6 20 = .inr (3, [.null, .int (zI 0), .int (zI 0), .int (zI 1)]) := by rw [hE6]; exact upN_s _ _ _
  refine lv_aload_n hx hb dX1_init_9 rfl (lv_at hl 0 rfl) ?_
  refine lv_bipush (v := zI 40) hx hb dX1_init_10 (by decide +kernel) ?_
  refine va_newq (n := zI 40) (N' := 40) hx hb hown (hts (.classLink RX1 15 RX3) (by decide +kernel)) hOX3 hK hP hD hS hA (by decide) (by decide) (by decide) (show 0 + 1 ≤ 41 by omega) (show 0 + 40 ≤ 320 by omega) dX1_init_12 (fun q12 y12 H hK hP hD hS => ?_)
  have hK : va_K D vwCl [(y12, .object "Slewfree$Page")] s := hK
  rw [pw_app] at hP hD
  obtain ⟨a12, ha12⟩ : ∃ z : Nat → Nat, z = upN a0 (21) q12 := ⟨_, rfl⟩
  obtain ⟨E12, hE12⟩ : ∃ z : Nat → va_E, z = upN E6 (21) (.inl (y12, 40, .inr (.inr (.inr (.inr (fun _ => none)))))) := ⟨_, rfl⟩
  rw [← ha12, ← hE12] at hP hD
  have Fold_E12 : ∀ j, j < 20 → E12 (0 + j) = E0 j := fun j hj => by rw [hE12, upN_n (by omega)]; exact Fold_E6 j hj
  have Flog_E12 : E12 20 = .inr (3, [.null, .int (zI 0), .int (zI 0), .int (zI 1)]) := by have h9 := congrFun hE12 20; rw [upN_n (by omega)] at h9; exact h9.trans Flog_E6
  have Gold_a12 : ∀ j, j < 20 → a12 (0 + j) = a0 j := fun j hj => by rw [ha12, upN_n (by omega)]; exact Gold_0 j hj
  have Glog_a12 : a12 20 = a0 20 := by have h9 := congrFun ha12 20; rw [upN_n (by omega)] at h9; exact h9.trans Glog_0
  have Fpgs_E12 : E12 (21) = .inl (y12, 40, .inr (.inr (.inr (.inr (fun _ => none))))) := by rw [hE12]; exact upN_s _ _ _
  have Gpgs_a12 : a12 (21) = q12 := by rw [ha12]; exact upN_s _ _ _
  have tlog_15 : (pw (21 + 1) a12 E12)[20]? = some ((a0 20, .inr (3, [.null, .int (zI 0), .int (zI 0), .int (zI 1)])) : Nat × va_E) := by rw [pw_get (by omega), Glog_a12, Flog_E12]
  refine va_putF (D := D) (ci := 3) (v := .ref q12) (ty := (.array (.object "Slewfree$Page"))) (C := RX1) (T := TX1) (N := 4) hx hb hts inX1 tyX1 tyX1_ok nmX1 hown hK hP hD hS 20 tlog_15 rfl 0 (by decide) (hts (.fieldLink RX1 17 "Slewfree$Log" "pages" "[LSlewfree$Page;") (by decide +kernel)) (fun _ h9 => h9) rfl hin rfl (by decide +kernel) rfl rfl (Nat.le_of_ble_eq_true rfl) dX1_init_15 (fun H locs hP hD hS => ?_)
  have hP : va_P D vwCl ((pw (21 + 1) a12 E12).set 20 (a0 20, .inr (3, [.ref q12, .int (zI 0), .int (zI 0), .int (zI 1)]))) H := hP
  have hD : va_D A ((pw (21 + 1) a12 E12).set 20 (a0 20, .inr (3, [.ref q12, .int (zI 0), .int (zI 0), .int (zI 1)]))) := hD
  rw [pw_set Glog_a12 (by omega)] at hP hD
  obtain ⟨E15, hE15⟩ : ∃ z : Nat → va_E, z = upN E12 20 (.inr (3, [.ref q12, .int (zI 0), .int (zI 0), .int (zI 1)])) := ⟨_, rfl⟩
  rw [← hE15] at hP hD
  have Fold_E15 : ∀ j, j < 20 → E15 (0 + j) = E0 j := fun j hj => by rw [hE15, upN_n (by omega)]; exact Fold_E12 j hj
  have Fpgs_E15 : E15 (21) = .inl (y12, 40, .inr (.inr (.inr (.inr (fun _ => none))))) := by have h9 := congrFun hE15 (21); rw [upN_n (by omega)] at h9; exact h9.trans Fpgs_E12
  have Flog_E15 : E15 20 = .inr (3, [.ref q12, .int (zI 0), .int (zI 0), .int (zI 1)]) := by rw [hE15]; exact upN_s _ _ _
  refine lv_iconst (v := zI 0) hx hb dX1_init_18 rfl ?_
  refine lv_istore_n (lv' := [(1, .int (zI 0)), (0, .ref (a0 20))]) hx hb dX1_init_19 rfl hl (by decide) rfl (fun ls hl => ?_)
  have loop20 : ∀ (d : Nat) (i : Nat) (a : Nat → Nat) (E : Nat → va_E) (H : Heap) (locs : List Loc) (ls : Array Slot), 40 - i < d → i ≤ 40 → (∀ j, j < 20 → E (0 + j) = E0 j) → (E 20 = .inr (3, [.ref q12, .int (zI 0), .int (zI 0), .int (zI 1)])) → (∀ j, j < 20 → a (0 + j) = a0 j) → (a 20 = a0 20) → (a (21) = q12) → (∃ f : Nat → Option Nat, E 21 = .inl (y12, 40, .inr (.inr (.inr (.inr f)))) ∧ ∀ j, j < i → f j = some (a (22 + j))) → (∀ j, j < i → E (22 + j) = .inr (5, [.int (zI 0), .int (zI 0), .int (zI 0), .int (zI 0), .int (zI 0), .int (zI 0), .int (zI 0)])) → va_P D vwCl (pw (22 + i) a E) H → va_D A (pw (22 + i) a E) → va_S A s.heap H locs → lv_has ls 2 [(0, .ref (a0 20)), (1, .int (zI ((i : Int))))] → W p l e (headSpec wsX1_init ({ frames := 8, cells := 41, slots := 320, locals := 200 })).room s m ([.ref (a0 20)] : List Value).toArray below meth c H locs (0 + 1 + i) (0 + 40 + i * 7) (MQ below (va_Qv (fun (u : (Nat → Nat) × (Nat → va_E) × ClassId) => (∀ k, k < 21 → u.1 k = a0 k) ∧ (∀ k, k < 20 → u.2.1 k = E0 k) ∧ u.2.1 20 = .inr (3, [.ref (u.1 21), .int (zI 0), .int (zI 0), .int (zI 1)]) ∧ (∃ f : Nat → Option Nat, u.2.1 21 = .inl (u.2.2, 40, .inr (.inr (.inr (.inr f)))) ∧ ∀ j, j < 40 → f j = some (u.1 (22 + j))) ∧ ∀ j, j < 40 → u.2.1 (22 + j) = .inr (5, fP (fun _ => 0))) (fun u t => va_P D vwCl (pw 62 u.1 u.2.1) t.heap ∧ va_D A (pw 62 u.1 u.2.1) ∧ va_K D vwCl [(u.2.2, .object "Slewfree$Page")] t) A) ([.ref (a0 20)] : List Value).toArray s 41 320 A) (F0 m 20 ls []) := by
    intro d
    induction d with
    | zero => intro i a E H locs ls h0; exact absurd h0 (Nat.not_lt_zero _)
    | succ d ih =>
      intro i a E H locs ls hms hi XFold XFlog XGold XGlog XGpgs hfa hel hP hD hS hl
      obtain ⟨f, hf, hfj⟩ := hfa
      have XFpgs := hf
      have XFel := hel
      have Fold_h := XFold
      have Flog_h := XFlog
      have Fpgs_h := XFpgs
      have Fel_h := XFel
      have Gold_h := XGold
      have Glog_h := XGlog
      have Gpgs_h := XGpgs
      refine lv_iload_n hx hb dX1_init_20 rfl (lv_at hl 1 rfl) ?_
      refine lv_bipush (v := zI 40) hx hb dX1_init_21 (by decide +kernel) ?_
      refine z_icmp_ge (tgt := 45) hx hb dX1_init_23 (by decide) (by omega) (by omega) (fun cd20 => ?_) (fun cd20 => ?_)
      · skip
        obtain rfl : i = 40 := by omega
        have Fpgs_z := Fpgs_h
        have Fepgs_z := hel
        obtain ⟨fpgs, efpgs⟩ : ∃ z : Nat → Option Nat, z = f := ⟨_, rfl⟩
        obtain ⟨αpgs, eαpgs⟩ : ∃ z : Nat → Nat, z = a := ⟨_, rfl⟩
        rw [← efpgs] at Fpgs_z hfj
        have hfjpgs : ∀ j, j < 40 → fpgs j = some (αpgs (22 + j)) := fun j hj => by rw [eαpgs]; exact hfj j hj
        have Gepgs_z : ∀ j, j < 40 → a (22 + j) = αpgs (22 + j) := fun j hj => by rw [eαpgs]
        have hP : va_P D vwCl (pw 62 a E) H := hP
        have hD : va_D A (pw 62 a E) := hD
        refine W.widen (k := 41) (n := 320) (by omega) (by omega) ?_
        exact W.vret hx hb hr (fun t9 ht hW => ⟨⟨(a, E, y12), rfl, ⟨fun k hk => by
          by_cases e : k = 20
          · rw [e]; exact Glog_h
          · have h9 := Gold_h k (by omega); rw [Nat.zero_add] at h9; exact h9, fun k hk => by have h9 := Fold_h k hk; rw [Nat.zero_add] at h9; exact h9, by show E 20 = .inr (3, [.ref (a 21), .int (zI 0), .int (zI 0), .int (zI 1)]); rw [Flog_h, Gpgs_h], ⟨fpgs, Fpgs_z, fun j hj => by rw [hfjpgs j hj, eαpgs]⟩, Fepgs_z⟩, by show va_P D vwCl _ t9.heap; rw [ht]; exact hP, hD, va_K.moved hW.alike hK⟩, hS.F ht⟩) hS.2.2 dX1_init_45
      · skip
        refine lv_aload_n hx hb dX1_init_26 rfl (lv_at hl 0 rfl) ?_
        have tlog_27 : (pw (22 + i) a E)[20]? = some ((a0 20, .inr (3, [.ref q12, .int (zI 0), .int (zI 0), .int (zI 1)])) : Nat × va_E) := by rw [pw_get (by omega), Glog_h, Flog_h]
        refine va_get (D := D) (ci := 3) (v := .ref (q12)) (C := RX1) (T := TX1) (N := 4) hx hb hts inX1 hown hK hP 20 tlog_27 rfl 0 (by decide) (hts (.fieldLink RX1 17 "Slewfree$Log" "pages" "[LSlewfree$Page;") (by decide +kernel)) (fun _ h9 => h9) rfl dX1_init_27 ?_
        refine lv_iload_n hx hb dX1_init_30 rfl (lv_at hl 1 rfl) ?_
        refine w_new (ci := 5) (fs := [.int (zI 0), .int (zI 0), .int (zI 0), .int (zI 0), .int (zI 0), .int (zI 0), .int (zI 0)]) (C := RX3) (T := TX3) (N := 7) hx hb hts inX3 tyX3 tyX3_ok hown (hts (.classLink RX1 15 RX3) (by decide +kernel)) (hts (.instantiable RX3 7) (by decide +kernel)) (hts (.initialized RX3) (by decide +kernel)) hK hP hD hS hA rfl (fun j hj => by rcases (show j = 0 ∨ j = 1 ∨ j = 2 ∨ j = 3 ∨ j = 4 ∨ j = 5 ∨ j = 6 by omega) with rfl | rfl | rfl | rfl | rfl | rfl | rfl <;> rfl) (show 0 + 1 + i + 1 ≤ 41 by omega) (show 0 + 40 + i * 7 + 7 ≤ 320 by omega) dX1_init_31 (fun q31 H hxq hsz1 ho1 hP hD hS1 => ?_)
        have hS := hS1
        rw [pw_app] at hP hD
        obtain ⟨a31, ha31⟩ : ∃ z : Nat → Nat, z = upN a (22 + i) q31 := ⟨_, rfl⟩
        obtain ⟨E31, hE31⟩ : ∃ z : Nat → va_E, z = upN E (22 + i) (.inr (5, [.int (zI 0), .int (zI 0), .int (zI 0), .int (zI 0), .int (zI 0), .int (zI 0), .int (zI 0)])) := ⟨_, rfl⟩
        rw [← ha31, ← hE31] at hP hD
        have Fold_E31 : ∀ j, j < 20 → E31 (0 + j) = E0 j := fun j hj => by rw [hE31, upN_n (by omega)]; exact Fold_h j hj
        have Flog_E31 : E31 20 = .inr (3, [.ref q12, .int (zI 0), .int (zI 0), .int (zI 1)]) := by have h9 := congrFun hE31 20; rw [upN_n (by omega)] at h9; exact h9.trans Flog_h
        have Fpgs_E31 : E31 21 = .inl (y12, 40, .inr (.inr (.inr (.inr f)))) := by have h9 := congrFun hE31 21; rw [upN_n (by omega)] at h9; exact h9.trans Fpgs_h
        have Fel_E31 : ∀ j, j < i → E31 (22 + j) = .inr (5, [.int (zI 0), .int (zI 0), .int (zI 0), .int (zI 0), .int (zI 0), .int (zI 0), .int (zI 0)]) := fun j hj => by rw [hE31, upN_n (by omega)]; exact Fel_h j hj
        have Gold_a31 : ∀ j, j < 20 → a31 (0 + j) = a0 j := fun j hj => by rw [ha31, upN_n (by omega)]; exact Gold_h j hj
        have Glog_a31 : a31 20 = a0 20 := by have h9 := congrFun ha31 20; rw [upN_n (by omega)] at h9; exact h9.trans Glog_h
        have Gpgs_a31 : a31 (21) = q12 := by have h9 := congrFun ha31 (21); rw [upN_n (by omega)] at h9; exact h9.trans Gpgs_h
        have Fnw_E31 : E31 (22 + i) = .inr (5, [.int (zI 0), .int (zI 0), .int (zI 0), .int (zI 0), .int (zI 0), .int (zI 0), .int (zI 0)]) := by rw [hE31]; exact upN_s _ _ _
        have Gnw_a31 : a31 (22 + i) = q31 := by rw [ha31]; exact upN_s _ _ _
        refine lv_dup hx hb dX1_init_34 rfl ?_
        have tnw_35 : (pw (22 + i + 1) a31 E31)[(22 + i)]? = some ((q31, .inr (5, [.int (zI 0), .int (zI 0), .int (zI 0), .int (zI 0), .int (zI 0), .int (zI 0), .int (zI 0)])) : Nat × va_E) := by rw [pw_get (by omega), Gnw_a31, Fnw_E31]
        refine va_callv (va_runIN (As := []) (rest := [.ref (q31), .int (zI ((i : Int))), .ref (q12)]) ⟨hx, hb, hml, hown, hts⟩ (c_X3_init l D A H.size (fun y h => hA y (Nat.le_trans hS.1 h)) _ q31 (22 + i) tnw_35) ⟨va_cnB 0 hts gX1_init_X3_init_n21 rfl rfl rfl hNX3 (hts (.initialized RX3) (by decide +kernel)) (by decide +kernel) ⟨Nat.le_of_ble_eq_true rfl, Nat.le_of_ble_eq_true rfl⟩, rfl, hts (.instanceMethod yX3_init) (by decide +kernel)⟩ ⟨nW_blind, fun U hU hW => ⟨rfl, by rw [hU], nW_mk hP hD hK hU hW⟩⟩ rfl rfl hl.1 rfl (lv_room (Nat.le_of_ble_eq_true rfl)) dX1_init_35 ⟨(show 0 + 1 + i + 1 + 0 ≤ 41 by omega), (show 0 + 40 + i * 7 + 7 + 0 ≤ 320 by omega)⟩) hS (fun _ _ h => h.elim) (fun _ h => h) (fun u9 t9 H locs ht hvm hw hB hz hk hS1 => ?_)
        have hP := hP.kept (fun k x hk9 => hk x.1 ((hP k x hk9).lt) (fun h => h))
        have hS := hS1
        have tpgs_38 : (pw (22 + i + 1) a31 E31)[21]? = some ((q12, .inl (y12, 40, .inr (.inr (.inr (.inr f))))) : Nat × va_E) := by rw [pw_get (by omega), Gpgs_a31, Fpgs_E31]
        have tnw_38 : (pw (22 + i + 1) a31 E31)[(22 + i)]? = some ((q31, .inr (5, [.int (zI 0), .int (zI 0), .int (zI 0), .int (zI 0), .int (zI 0), .int (zI 0), .int (zI 0)])) : Nat × va_E) := by rw [pw_get (by omega), Gnw_a31, Fnw_E31]
        refine va_astq (r := (RX3, TX3, 7)) hx hb hK hP hD hS 21 0 (22 + i) 5 tpgs_38 rfl tnw_38 rfl (zI_in (by omega) (by omega) (by omega)) dX1_init_38 (fun H locs hP hD hS => ?_)
        rw [zI_clamp (by omega) (by omega), Int.toNat_natCast] at hP hD
        have hP : va_P D vwCl ((pw (22 + i + 1) a31 E31).set 21 (q12, .inl (y12, 40, .inr (.inr (.inr (.inr (va_up f i (some q31)))))))) H := hP
        have hD : va_D A ((pw (22 + i + 1) a31 E31).set 21 (q12, .inl (y12, 40, .inr (.inr (.inr (.inr (va_up f i (some q31)))))))) := hD
        rw [pw_set Gpgs_a31 (by omega)] at hP hD
        obtain ⟨E38, hE38⟩ : ∃ z : Nat → va_E, z = upN E31 21 (.inl (y12, 40, .inr (.inr (.inr (.inr (va_up f i (some q31))))))) := ⟨_, rfl⟩
        rw [← hE38] at hP hD
        have Fold_E38 : ∀ j, j < 20 → E38 (0 + j) = E0 j := fun j hj => by rw [hE38, upN_n (by omega)]; exact Fold_E31 j hj
        have Flog_E38 : E38 20 = .inr (3, [.ref q12, .int (zI 0), .int (zI 0), .int (zI 1)]) := by have h9 := congrFun hE38 20; rw [upN_n (by omega)] at h9; exact h9.trans Flog_E31
        have Fel_E38 : ∀ j, j < i → E38 (22 + j) = .inr (5, [.int (zI 0), .int (zI 0), .int (zI 0), .int (zI 0), .int (zI 0), .int (zI 0), .int (zI 0)]) := fun j hj => by rw [hE38, upN_n (by omega)]; exact Fel_E31 j hj
        have Fnw_E38 : E38 (22 + i) = .inr (5, [.int (zI 0), .int (zI 0), .int (zI 0), .int (zI 0), .int (zI 0), .int (zI 0), .int (zI 0)]) := by have h9 := congrFun hE38 (22 + i); rw [upN_n (by omega)] at h9; exact h9.trans Fnw_E31
        have Fpgs_E38 : E38 21 = .inl (y12, 40, .inr (.inr (.inr (.inr (va_up f i (some q31)))))) := by rw [hE38]; exact upN_s _ _ _
        refine lv_iinc (v := zI (((i + 1 : Nat) : Int))) (lv' := [(1, .int (zI ((i + 1 : Nat) : Int))), (0, .ref (a0 20))]) hx hb dX1_init_39 hl (k := 1) rfl (by rw [show ((i + 1 : Nat) : Int) = (i : Int) + 1 by omega]; exact zI_add _ _) (by decide) rfl (fun ls hl => ?_)
        refine lv_goto (tgt := 20) hx hb dX1_init_42 (by decide) ?_
        refine W.widen (k := 0 + 1 + (i + 1)) (n := 0 + 40 + (i + 1) * 7) (by omega) (by omega) ?_
        have hai : ∀ j, j < i → a31 (22 + j) = a (22 + j) := fun j hj => by rw [ha31, upN_n (by omega)]
        exact ih (i + 1) a31 E38 H locs ls (by omega) (by omega) Fold_E38 Flog_E38 Gold_a31 Glog_a31 Gpgs_a31 ⟨_, Fpgs_E38, fun j hj => by
          unfold va_up
          by_cases e : j = i
          · rw [if_pos e, e, Gnw_a31]
          · rw [if_neg e, hai j (by omega)]; exact hfj j (by omega)⟩ (fun j hj => by
          by_cases e : j = i
          · rw [e]; exact Fnw_E38
          · exact Fel_E38 j (by omega)) hP hD hS (by have h9 := lv_sub hl [1, 0] rfl; exact h9)
  exact loop20 41 0 a12 E15 H locs ls (by omega) (by omega) Fold_E15 Flog_E15 Gold_a12 Glog_a12 Gpgs_a12 ⟨_, Fpgs_E15, fun j hj => absurd hj (Nat.not_lt_zero _)⟩ (fun j hj => absurd hj (Nat.not_lt_zero _)) hP hD hS (by have h9 := lv_sub hl [1, 0] rfl; exact h9)
