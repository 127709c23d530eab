abbrev vwCl : List vw_C := [(RJ0, TJ0, 4), (RJ4, TJ4, 4), (RX0, TX0, 12), (RX1, TX1, 4), (RX2, TX2, 4), (RX3, TX3, 7), (RX4, TX4, 3), (RX5, TX5, 7), (RX6, TX6, 5), (RX7, TX7, 9)]
/-! THE SITE'S WORLD: 62 cells at the addresses a 0 .. a 61; r k j is field j of object k, q the order of the pages -/
def fS (a : Nat → Nat) (r : Nat → Int) : List Value := [.ref (a 1), .ref (a 2), .ref (a 6), .ref (a 13), .ref (a 20), .int (zI (r 5)), .int (zI (r 6)), .int (zI (r 7)), .int (zI (r 8))]
def fW (r : Nat → Int) : List Value := [.int (zI (r 0)), .int (zI (r 1)), .int (zI (r 2)), .int (zI (r 3)), .int (zI (r 4)), .int (zI (r 5)), .int (zI (r 6))]
def fC (r : Nat → Int) : List Value := [.int (zI (r 0)), .int (zI (r 1)), .int (zI (r 2)), .int (zI (r 3)), .int (zI (r 4)), .int (zI (r 5)), .int (zI (r 6)), .int (zI (r 7)), .int (zI (r 8)), .int (zI (r 9)), .int (zI (r 10)), .int (zI (r 11))]
def fZ (r : Nat → Int) : List Value := [.int (zI (r 0)), .int (zI (r 1)), .int (zI (r 2)), .int (zI (r 3)), .int (zI (r 4))]
def fM (r : Nat → Int) : List Value := [.int (zI (r 0)), .int (zI (r 1)), .int (zI (r 2)), .int (zI (r 3))]
def fL (a : Nat → Nat) (r : Nat → Int) : List Value := [.ref (a 21), .int (zI (r 1)), .int (zI (r 2)), .int (zI (r 3))]
def fP (r : Nat → Int) : List Value := [.int (zI (r 0)), .int (zI (r 1)), .int (zI (r 2)), .int (zI (r 3)), .int (zI (r 4)), .int (zI (r 5)), .int (zI (r 6))]
def eA (cA : ClassId) (n : Nat) (f : Nat → Nat) : va_E := .inl (cA, n, .inr (.inr (.inr (.inr (fun i => some (f i))))))
def wcell (cy : Nat → ClassId) (a q : Nat → Nat) (r : Nat → Int) (k : Nat) : va_E :=
  if k = 0 then .inr (9, fS a r) else if k = 1 then .inr (7, fW r) else if k = 2 then eA (cy 0) 3 (fun i => a (3 + i)) else if k < 6 then .inr (2, fC r) else if k = 6 then eA (cy 1) 6 (fun i => a (7 + i)) else if k < 13 then .inr (8, fZ r) else if k = 13 then eA (cy 2) 6 (fun i => a (14 + i)) else if k < 20 then .inr (4, fM r) else if k = 20 then .inr (3, fL a r) else if k = 21 then eA (cy 3) 40 (fun i => a (22 + q i)) else .inr (5, fP r)
def wld (cy : Nat → ClassId) (a q : Nat → Nat) (σ : Nat → Nat → Int) : va_W := (List.range 62).map (fun k => (a k, wcell cy a q (σ k) k))
abbrev wty (cy : Nat → ClassId) : List (ClassId × FieldType) := [(cy 0, .object "Slewfree$Crane"), (cy 1, .object "Slewfree$Zone"), (cy 2, .object "Slewfree$Meeting"), (cy 3, .object "Slewfree$Page")]
def upr (r : Nat → Int) (j : Nat) (z : Int) : Nat → Int := fun i => if i = j then z else r i
def upR (σ : Nat → Nat → Int) (k : Nat) (r : Nat → Int) : Nat → Nat → Int := fun i => if i = k then r else σ i
def up2 (σ : Nat → Nat → Int) (k j : Nat) (z : Int) : Nat → Nat → Int := upR σ k (upr (σ k) j z)
theorem upr_s (r : Nat → Int) (j : Nat) (z : Int) : upr r j z j = z := if_pos rfl
theorem upr_n {r : Nat → Int} {j i : Nat} {z : Int} (h : i ≠ j) : upr r j z i = r i := if_neg h
theorem upR_s (σ : Nat → Nat → Int) (k : Nat) (r : Nat → Int) : upR σ k r k = r := if_pos rfl
theorem upR_n {σ : Nat → Nat → Int} {k i : Nat} {r : Nat → Int} (h : i ≠ k) : upR σ k r i = σ i := if_neg h
theorem up2_s (σ : Nat → Nat → Int) (k j : Nat) (z : Int) : up2 σ k j z k = upr (σ k) j z := if_pos rfl
theorem up2_n {σ : Nat → Nat → Int} {k j i : Nat} {z : Int} (h : i ≠ k) : up2 σ k j z i = σ i := if_neg h
section WL
variable {cy : Nat → ClassId} {a q : Nat → Nat} {σ : Nat → Nat → Int} {r : Nat → Int} {X : va_W}
theorem wc_C {i : Nat} (h : i < 3) : wcell cy a q r (3 + i) = .inr (2, fC r) := by
  unfold wcell
  rw [if_neg (by omega), if_neg (by omega), if_neg (by omega), if_pos (by omega)]
theorem wc_Z {i : Nat} (h : i < 6) : wcell cy a q r (7 + i) = .inr (8, fZ r) := by
  unfold wcell
  rw [if_neg (by omega), if_neg (by omega), if_neg (by omega), if_neg (by omega), if_neg (by omega), if_pos (by omega)]
theorem wc_M {i : Nat} (h : i < 6) : wcell cy a q r (14 + i) = .inr (4, fM r) := by
  unfold wcell
  rw [if_neg (by omega), if_neg (by omega), if_neg (by omega), if_neg (by omega), if_neg (by omega), if_neg (by omega), if_neg (by omega), if_pos (by omega)]
theorem wc_P {i : Nat} : wcell cy a q r (22 + i) = .inr (5, fP r) := by
  unfold wcell
  rw [if_neg (by omega), if_neg (by omega), if_neg (by omega), if_neg (by omega), if_neg (by omega), if_neg (by omega), if_neg (by omega), if_neg (by omega), if_neg (by omega), if_neg (by omega)]
theorem wc_S : wcell cy a q r 0 = .inr (9, fS a r) := rfl
theorem wc_W : wcell cy a q r 1 = .inr (7, fW r) := rfl
theorem wc_L : wcell cy a q r 20 = .inr (3, fL a r) := rfl
theorem wld_len : (wld cy a q σ).length = 62 := by simp [wld]
theorem wld_get {k : Nat} (h : k < 62) : (wld cy a q σ)[k]? = some (a k, wcell cy a q (σ k) k) := by simp [wld, h]
theorem wld_inv {k : Nat} {x : Nat × va_E} (h : (wld cy a q σ)[k]? = some x) : k < 62 ∧ x = (a k, wcell cy a q (σ k) k) := by
  have hk : k < 62 := by
    have := (List.getElem?_eq_some_iff.mp h).1
    rwa [wld_len] at this
  rw [wld_get hk] at h
  exact ⟨hk, (Option.some.inj h).symm⟩
theorem wX_get {k : Nat} (h : k < 62) : (wld cy a q σ ++ X)[k]? = some (a k, wcell cy a q (σ k) k) := by
  rw [List.getElem?_append_left (by rw [wld_len]; exact h), wld_get h]
theorem wg_S : (wld cy a q σ ++ X)[0]? = some (a 0, .inr (9, fS a (σ 0))) := wX_get (by omega)
theorem wg_W : (wld cy a q σ ++ X)[1]? = some (a 1, .inr (7, fW (σ 1))) := wX_get (by omega)
theorem wg_AC : (wld cy a q σ ++ X)[2]? = some (a 2, .inl (cy 0, 3, .inr (.inr (.inr (.inr (fun i => some (a (3 + i)))))))) := wX_get (by omega)
theorem wg_AZ : (wld cy a q σ ++ X)[6]? = some (a 6, .inl (cy 1, 6, .inr (.inr (.inr (.inr (fun i => some (a (7 + i)))))))) := wX_get (by omega)
theorem wg_AM : (wld cy a q σ ++ X)[13]? = some (a 13, .inl (cy 2, 6, .inr (.inr (.inr (.inr (fun i => some (a (14 + i)))))))) := wX_get (by omega)
theorem wg_AP : (wld cy a q σ ++ X)[21]? = some (a 21, .inl (cy 3, 40, .inr (.inr (.inr (.inr (fun i => some (a (22 + q i)))))))) := wX_get (by omega)
theorem wg_L : (wld cy a q σ ++ X)[20]? = some (a 20, .inr (3, fL a (σ 20))) := wX_get (by omega)
theorem wg_C {i : Nat} (h : i < 3) : (wld cy a q σ ++ X)[3 + i]? = some (a (3 + i), .inr (2, fC (σ (3 + i)))) := by rw [wX_get (by omega), wc_C h]
theorem wg_Z {i : Nat} (h : i < 6) : (wld cy a q σ ++ X)[7 + i]? = some (a (7 + i), .inr (8, fZ (σ (7 + i)))) := by rw [wX_get (by omega), wc_Z h]
theorem wg_M {i : Nat} (h : i < 6) : (wld cy a q σ ++ X)[14 + i]? = some (a (14 + i), .inr (4, fM (σ (14 + i)))) := by rw [wX_get (by omega), wc_M h]
theorem wg_P {i : Nat} (h : i < 40) : (wld cy a q σ ++ X)[22 + i]? = some (a (22 + i), .inr (5, fP (σ (22 + i)))) := by rw [wX_get (by omega), wc_P]
theorem wld_upR {k : Nat} (h : k < 62) : (wld cy a q σ ++ X).set k (a k, wcell cy a q r k) = wld cy a q (upR σ k r) ++ X := by
  rw [List.set_append_left _ _ (by rw [wld_len]; exact h)]
  congr 1
  apply List.ext_getElem?
  intro j
  by_cases hj : j < 62
  · rw [wld_get hj, List.getElem?_set]
    by_cases e : k = j
    · subst e
      rw [if_pos rfl, if_pos (by rw [wld_len]; exact h), upR_s]
    · rw [if_neg e, wld_get hj, upR_n (fun z => e z.symm)]
  · rw [List.getElem?_eq_none (by rw [List.length_set, wld_len]; omega), List.getElem?_eq_none (by rw [wld_len]; omega)]
theorem wld_upq {j v : Nat} : (wld cy a q σ ++ X).set 21 (a 21, .inl (cy 3, 40, .inr (.inr (.inr (.inr (va_up (fun i => some (a (22 + q i))) j (some (a (22 + v))))))))) = wld cy a (va_up q j v) σ ++ X := by
  rw [List.set_append_left _ _ (by rw [wld_len]; omega)]
  congr 1
  apply List.ext_getElem?
  intro i
  by_cases hi : i < 62
  · rw [wld_get hi, List.getElem?_set]
    by_cases e : 21 = i
    · subst e
      rw [if_pos rfl, if_pos (by rw [wld_len]; omega)]
      have hf : va_up (fun i => some (a (22 + q i))) j (some (a (22 + v))) = fun i => some (a (22 + va_up q j v i)) := by
        funext i
        unfold va_up
        by_cases h : i = j
        · rw [if_pos h, if_pos h]
        · rw [if_neg h, if_neg h]
      rw [hf]
      rfl
    · rw [if_neg e, wld_get hi]
      congr 2
      unfold wcell
      rw [if_neg (show ¬ i = 21 by omega), if_neg (show ¬ i = 21 by omega)]
  · rw [List.getElem?_eq_none (by rw [List.length_set, wld_len]; omega), List.getElem?_eq_none (by rw [wld_len]; omega)]
end WL
/-- which addresses the site's methods may write: its own, and new ones -/
def wF (a : Nat → Nat) (sz : Nat) : Nat → Prop := fun x => (∃ k, k < 62 ∧ a k = x) ∨ sz ≤ x
def wInj (a : Nat → Nat) : Prop := ∀ i j, i < 62 → j < 62 → a i = a j → i = j
theorem wF_mono {a : Nat → Nat} {n k : Nat} (h : n ≤ k) (x : Nat) (hx : wF a k x) : wF a n x := hx.elim Or.inl (fun z => Or.inr (Nat.le_trans h z))
/-- the strings of the class's throws, by their places -/
def wstrs : List (Nat × String) := [(52, "reach is 10 to 40, falls 2 or 4"), (63, "there are 3 cranes"), (353, "no such crane"), (90, "loads are 0 to 99, none more than the one ahead of it"), (247, "what is 0 to 9"), (295, "what is 0 to 16"), (115, "angles are 0 to 23, hours rise within 0 to 24"), (120, "there are 6 zones"), (137, "two cranes meet, angles are 0 to 23"), (142, "there are 6 meetings"), (159, "base is 0 to 30, gusts 0 to 10, direction 0 to 23"), (170, "minutes are 1 to 300"), (175, "minute would be above 9999"), (186, "wind is above 12"), (217, "two cranes lift, load is 1 to 199, part 1 to 9"), (232, "no such page"), (311, "radius is 10 to reach"), (196, "load is 1 to 199, radii 10 to reach, angle 0 to 23"), (268, "what is 0 to 6")]
def wStr (U : State) : Prop := ∀ x ∈ wstrs, ∃ sa : Nat, vk_R RX7 x.1 x.2 sa U
def vBad (E : String) : List Cond := [.declares (Bundle.initS "java/lang/RuntimeException"), .declares (Bundle.initS "java/lang/Exception"), .declares (Bundle.initS Bundle.tN), .castable E E]
def wCast (E : String) (U : State) : Prop := va_Nw (.declares (Bundle.initS "java/lang/RuntimeException")) U ∧ va_Nw (.declares (Bundle.initS "java/lang/Exception")) U ∧ va_Nw (.declares (Bundle.initS Bundle.tN)) U ∧ va_Nw (.castable E E) U
theorem wCast.bad {E : String} {U : State} {args : Array Value} (h : wCast E U) : ∀ w ∈ vBad E, w.before args U = true := vx_c (va_Nw.use rfl h.1) (vx_c (va_Nw.use rfl h.2.1) (vx_c (va_Nw.use rfl h.2.2.1) (vx_c (va_Nw.use rfl h.2.2.2) vx_n)))
theorem wCast.warm {E : String} {s U : State} (hW : s.WarmedH U.vm) (h : wCast E s) : wCast E U := ⟨va_Nw.warmD hW h.1, va_Nw.warmD hW h.2.1, va_Nw.warmD hW h.2.2.1, va_Nw.warmC hW h.2.2.2⟩
def wNest (U : State) : Prop := va_Nw (.methodLinkNest RX0 19 yX7_tenthRoundedUp RX7) U ∧ va_Nw (.methodLinkNest RX6 13 yX7_risingSteps RX7) U ∧ wCast "java/lang/IllegalArgumentException" U ∧ wCast "java/lang/IllegalStateException" U ∧ wCast "java/lang/IndexOutOfBoundsException" U
/-- what a method of the site finds beside its cells -/
def wE (D : va_G) (cy : Nat → ClassId) (a : Nat → Nat) (U : State) : Prop := va_K D vwCl (wty cy) U ∧ wInj a ∧ vx_Zq Bundle.tN "UNASSIGNED_STACK" Bundle.steD (wF a U.heap.size) U U.heap ∧ vx_Zq Bundle.tN "SUPPRESSED_SENTINEL" Bundle.listD (wF a U.heap.size) U U.heap ∧ wStr U ∧ wNest U
def Wd (D : va_G) (cy : Nat → ClassId) (a q : Nat → Nat) (σ : Nat → Nat → Int) (U : State) : Prop := va_P D vwCl (wld cy a q σ) U.heap ∧ wE D cy a U
theorem wStr_warm {s U : State} (hW : s.WarmedH U.vm) (h : wStr s) : wStr U := fun x hx => by
  obtain ⟨sa, h1⟩ := h x hx
  exact ⟨sa, vk_R.warm hW h1⟩
theorem wNest_warm {s U : State} (hW : s.WarmedH U.vm) (h : wNest s) : wNest U := ⟨va_Nw.warmM hW h.1, va_Nw.warmM hW h.2.1, wCast.warm hW h.2.2.1, wCast.warm hW h.2.2.2.1, wCast.warm hW h.2.2.2.2⟩
theorem Wd_mkL {D : va_G} {cy : Nat → ClassId} {a q : Nat → Nat} {σ : Nat → Nat → Int} {s U : State} {H : Heap} {locs : List Loc} {A : Nat → Prop} (hP : va_P D vwCl (wld cy a q σ) H) (hK : va_K D vwCl (wty cy) s) (hI : wInj a) (hU0 : vx_Zq Bundle.tN "UNASSIGNED_STACK" Bundle.steD A s s.heap) (hN0 : vx_Zq Bundle.tN "SUPPRESSED_SENTINEL" Bundle.listD A s s.heap) (hs : wStr s) (hn : wNest s) (hS : va_S A s.heap H locs) (hA : ∀ x, wF a H.size x → A x) (hU : U.heap = H) (hW : s.WarmedH U.vm) : Wd D cy a q σ U := by
  subst hU
  exact ⟨hP, va_K.moved hW.alike hK, hI, vx_Zq.narrow ((hU0.moved hW.alike).kept (fun x h1 h2 => hS.2.1 x h1 h2)) hA, vx_Zq.narrow ((hN0.moved hW.alike).kept (fun x h1 h2 => hS.2.1 x h1 h2)) hA, wStr_warm hW hs, wNest_warm hW hn⟩
theorem Wd_mk {D : va_G} {cy : Nat → ClassId} {a q : Nat → Nat} {σ : Nat → Nat → Int} {s U : State} {H : Heap} {locs : List Loc} (hP : va_P D vwCl (wld cy a q σ) H) (hE : wE D cy a s) (hS : va_S (wF a s.heap.size) s.heap H locs) (hU : U.heap = H) (hW : s.WarmedH U.vm) : Wd D cy a q σ U :=
  Wd_mkL hP hE.1 hE.2.1 hE.2.2.1 hE.2.2.2.1 hE.2.2.2.2.1 hE.2.2.2.2.2 hS (fun x h => wF_mono hS.1 x h) hU hW
theorem State_calling_heap (U : State) (g : JFrame) (mk : MethodId) (v : Array Value) : (U.calling g mk v).heap = U.heap := rfl
theorem Wd_blind {D : va_G} {cy : Nat → ClassId} {a q : Nat → Nat} {σ : Nat → Nat → Int} {av : List Value} {sz : Nat} : FrameBlind (va_Pc av (fun U => U.heap.size = sz ∧ Wd D cy a q σ U)) := fun v U g mk h => by
  obtain ⟨h1, h2, hP, hK, hI, hU, hN, hs, hn⟩ := h
  have hvm : U.vm.Alike (U.calling g mk v).vm := Vm.Alike.refl U.vm
  have hW : U.WarmedH (U.calling g mk v).vm := State.WarmedH.refl U
  exact ⟨h1, h2, hP, va_K.moved hvm hK, hI, hU.moved hvm, hN.moved hvm, wStr_warm hW hs, wNest_warm hW hn⟩
theorem wP_left {D : va_G} {w X : va_W} {H : Heap} (h : va_P D vwCl (w ++ X) H) : va_P D vwCl w H := fun k x hk => h k x (by
  rw [List.getElem?_append_left (List.getElem?_eq_some_iff.mp hk).1]
  exact hk)
theorem wP_right {D : va_G} {w X : va_W} {H : Heap} (h : va_P D vwCl (w ++ X) H) : va_P D vwCl X H := fun k x hk => h (w.length + k) x (by
  rw [List.getElem?_append_right (by omega), Nat.add_sub_cancel_left]
  exact hk)
theorem wD_of {cy : Nat → ClassId} {a q : Nat → Nat} {σ : Nat → Nat → Int} {n : Nat} (hI : wInj a) : va_D (wF a n) (wld cy a q σ ++ []) := by
  rw [List.append_nil]
  refine ⟨fun i j x y hi hj e => ?_, fun k x hk => ?_⟩
  · obtain ⟨h1, rfl⟩ := wld_inv hi
    obtain ⟨h2, rfl⟩ := wld_inv hj
    exact hI i j h1 h2 e
  · obtain ⟨h1, rfl⟩ := wld_inv hk
    exact Or.inl ⟨k, h1, rfl⟩
/-- behind a call that writes the site alone -/
theorem wd_join {D : va_G} {cy : Nat → ClassId} {a q q1 : Nat → Nat} {σ σ1 : Nat → Nat → Int} {A : Nat → Prop} {X : va_W} {H H1 : Heap} (hP : va_P D vwCl (wld cy a q σ ++ X) H) (hD : va_D A (wld cy a q σ ++ X)) (hk : ∀ x : Nat, x < H.size → ¬ wF a H.size x → H1[x]? = H[x]?) (h1 : va_P D vwCl (wld cy a q1 σ1) H1) : va_P D vwCl (wld cy a q1 σ1 ++ X) H1 ∧ va_D A (wld cy a q1 σ1 ++ X) := by
  have old : ∀ (k : Nat) (x : Nat × va_E), (wld cy a q1 σ1 ++ X)[k]? = some x → ∃ y, (wld cy a q σ ++ X)[k]? = some y ∧ y.1 = x.1 ∧ (62 ≤ k → y = x) := by
    intro k x hx
    by_cases h : k < 62
    · rw [wX_get h] at hx
      cases hx
      exact ⟨_, wX_get h, rfl, fun z => absurd h (by omega)⟩
    · rw [List.getElem?_append_right (by rw [wld_len]; omega), wld_len] at hx
      exact ⟨x, by rw [List.getElem?_append_right (by rw [wld_len]; omega), wld_len]; exact hx, rfl, fun _ => rfl⟩
  refine ⟨fun k x hx => ?_, fun i j x y hx hy e => ?_, fun k x hx => ?_⟩
  · by_cases h : k < 62
    · rw [wX_get h] at hx
      cases hx
      exact h1 k _ (wld_get h)
    · obtain ⟨y, hy, -, e⟩ := old k x hx
      have e := e (by omega)
      subst e
      have hat := hP k y hy
      refine hat.kept (hk y.1 hat.lt (fun hw => ?_))
      rcases hw with ⟨j, hj, e⟩ | hw
      · have := hD.1 k j y _ hy (wX_get hj) e.symm
        omega
      · have := hat.lt
        omega
  · obtain ⟨x0, hx0, e1, -⟩ := old i x hx
    obtain ⟨y0, hy0, e2, -⟩ := old j y hy
    exact hD.1 i j x0 y0 hx0 hy0 (by rw [e1, e2, e])
  · obtain ⟨x0, hx0, e1, -⟩ := old k x hx
    rw [← e1]
    exact hD.2 k x0 hx0
section ZW
variable {p : Program} {l : Launch} {e : Env} {R : Room} {s : State} {m : MethodId} {args : Array Value} {below : List Frame} {meth : Method} {c : Code} {H H0 : Heap} {locs : List Loc} {cells slots : Nat} {Q : State → Prop} {cc : ByteArray} {pc : Nat} {ls : Array Slot} {rest : List Value} {D : va_G} {cy : Nat → ClassId} {a q : Nat → Nat} {σ : Nat → Nat → Int} {X ws : va_W} {A : Nat → Prop} {tys : List (ClassId × FieldType)} {cl : List vw_C}
theorem z_aald (hx : p.tables.exec = Jvm.exec) (hb : c.code = cc) (hK : va_K D cl tys s) (hP : va_P D cl ws H) (q0 t0 : Nat) {ar : Nat} {cA : ClassId} {C : String} {n : Nat} {f : Nat → Nat} (ha : ws[q0]? = some (ar, .inl (cA, n, .inr (.inr (.inr (.inr (fun i => some (f i)))))))) (ht : tys[t0]? = some (cA, .object C)) {z : Int} {i : Nat} (hz : z = i) (hi : i < n) (hn : n < 2147483648) (hdg : decode cc pc = .ok (.aaload, 1))
    (kk : W p l e R s m args below meth c H locs cells slots Q (F0 m (pc + 1) ls (.ref (f i) :: rest))) : W p l e R s m args below meth c H locs cells slots Q (F0 m pc ls (.int (zI z) :: .ref ar :: rest)) := by
  subst hz
  refine va_aldq hx hb hK hP q0 t0 ha ht (zI_in (by omega) (by omega) hn) hdg ?_
  rw [zI_clamp (by omega) ⟨by omega, by omega⟩, Int.toNat_natCast]
  exact kk
theorem w_put (hx : p.tables.exec = Jvm.exec) (hb : c.code = cc) {own ref C : String} {T : u_T} {N index : Nat} {Ts : List Cond} (hts : ∀ w ∈ Ts, w.before args s = true) (hin : ∀ w ∈ u_ws C T N, w ∈ Ts) (ty0 : Nat → FieldType) (hty : ∀ k, k < N → parseFieldDescriptor (T k).2.2.1 = some (ty0 k)) (hnm : ∀ a, a < N → ∀ b, b < N → a ≠ b → (T a).2.1 ≠ (T b).2.1) (hown : s.vm.findClass own = some m.cls) (hK : va_K D vwCl tys s) (hP : va_P D vwCl (wld cy a q σ ++ X) H) (hD : va_D A (wld cy a q σ ++ X)) (hS : va_S A H0 H locs) (k : Nat) (hk : k < 62) {ci : Nat} {fs : (Nat → Int) → List Value} (he : ∀ r, wcell cy a q r k = .inr (ci, fs r)) (hc : vwCl[ci]? = some (C, T, N)) (j : Nat) (hj : j < N) (hlink : (Cond.fieldLink own index ref (T j).2.1 (T j).2.2.1).before args s = true) (hsame : ∀ x, s.fieldFound? (T j).1 (T j).2.1 (T j).2.2.1 = some x → s.fieldFound? ref (T j).2.1 (T j).2.2.1 = some x) (hfin : (T j).2.2.2 = false) {ty : FieldType} {z : Int} (hd : parseFieldDescriptor (T j).2.2.1 = some ty) (hn : narrow ty (.int (zI z)) = .int (zI z)) (hfit : fits ty (.int (zI z)) = true) (hl : j < (fs (σ k)).length) (hset : (fs (σ k)).set j (.int (zI z)) = fs (upr (σ k) j z)) (hdg : decode cc pc = .ok (.putfield index, 3))
    (kk : ∀ (H1 : Heap) (locs1 : List Loc), va_P D vwCl (wld cy a q (up2 σ k j z) ++ X) H1 → va_D A (wld cy a q (up2 σ k j z) ++ X) → va_S A H0 H1 locs1 → W p l e R s m args below meth c H1 locs1 cells slots Q (F0 m (pc + 3) ls rest)) : W p l e R s m args below meth c H locs cells slots Q (F0 m pc ls (.int (zI z) :: .ref (a k) :: rest)) := by
  have e1 : (wld cy a q σ ++ X).set k (a k, .inr (ci, (fs (σ k)).set j (.int (zI z)))) = wld cy a q (up2 σ k j z) ++ X := by
    rw [hset, ← he]
    exact wld_upR hk
  refine va_put hx hb hts hin ty0 hty hnm hown hK hP hD hS k (fs := fs (σ k)) (by rw [wX_get hk, he]) hc j hj hlink hsame hfin hd hn hfit hl hdg (fun H1 locs1 h1 h2 h3 => kk H1 locs1 ?_ ?_ h3)
  · rw [← e1]; exact h1
  · rw [← e1]; exact h2
end ZW
/-- the exceptions that the class throws -/
def okE (E : String) : Prop := E = "java/lang/IllegalArgumentException" ∨ E = "java/lang/IllegalStateException" ∨ E = "java/lang/IndexOutOfBoundsException"
theorem okE_A : okE "java/lang/IllegalArgumentException" := Or.inl rfl
theorem okE_S : okE "java/lang/IllegalStateException" := Or.inr (Or.inl rfl)
theorem okE_I : okE "java/lang/IndexOutOfBoundsException" := Or.inr (Or.inr rfl)
theorem vg54 : ∀ w ∈ Cond.classLink RX7 50 "java/lang/IllegalArgumentException" :: Cond.initialized "java/lang/IllegalArgumentException" :: vx_atS RX7 54 "java/lang/IllegalArgumentException" ["java/lang/RuntimeException", "java/lang/Exception"], vx_ot w = true := by decide +kernel
theorem vg65 : ∀ w ∈ Cond.classLink RX7 61 "java/lang/IllegalStateException" :: Cond.initialized "java/lang/IllegalStateException" :: vx_atS RX7 65 "java/lang/IllegalStateException" ["java/lang/RuntimeException", "java/lang/Exception"], vx_ot w = true := by decide +kernel
theorem vg234 : ∀ w ∈ Cond.classLink RX7 230 "java/lang/IndexOutOfBoundsException" :: Cond.initialized "java/lang/IndexOutOfBoundsException" :: vx_atS RX7 234 "java/lang/IndexOutOfBoundsException" ["java/lang/RuntimeException", "java/lang/Exception"], vx_ot w = true := by decide +kernel
theorem vf54 : ∀ w ∈ (vx_atS RX7 54 "java/lang/IllegalArgumentException" ["java/lang/RuntimeException", "java/lang/Exception"]).filter (fun w => !goodWord w), w ∈ vBad "java/lang/IllegalArgumentException" := by decide +kernel
theorem vf65 : ∀ w ∈ (vx_atS RX7 65 "java/lang/IllegalStateException" ["java/lang/RuntimeException", "java/lang/Exception"]).filter (fun w => !goodWord w), w ∈ vBad "java/lang/IllegalStateException" := by decide +kernel
theorem vf234 : ∀ w ∈ (vx_atS RX7 234 "java/lang/IndexOutOfBoundsException" ["java/lang/RuntimeException", "java/lang/Exception"]).filter (fun w => !goodWord w), w ∈ vBad "java/lang/IndexOutOfBoundsException" := by decide +kernel
theorem vF_R {s t : State} {H : Heap} (ht : t.heap = H) (h1 : s.heap.size ≤ H.size) (hk : ∀ x : Nat, x < s.heap.size → H[x]? = s.heap[x]?) : va_F (fun _ => False) s t := by
  subst ht
  exact ⟨h1, fun x h9 _ => hk x h9⟩
