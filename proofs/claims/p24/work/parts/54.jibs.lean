/-! JIBS: its length -/
def jL (σ : Nat → Nat → Int) : Nat → Int
  | 0 => 0
  | i + 1 => jL σ i + (if i = 0 then 0 else 1) + 1 + (if σ (3 + i) 3 < 10 then 1 else 2)
theorem jL_s {σ : Nat → Nat → Int} {i : Nat} : jL σ (i + 1) = jL σ i + (if i = 0 then 0 else 1) + 1 + (if σ (3 + i) 3 < 10 then 1 else 2) := rfl
theorem jL_b {σ : Nat → Nat → Int} : ∀ i : Nat, 0 ≤ jL σ i ∧ jL σ i ≤ 4 * i ∧ 2 * i ≤ jL σ i
  | 0 => ⟨Int.le_refl _, Int.le_refl _, Int.le_refl _⟩
  | i + 1 => by
    have h := jL_b (σ := σ) i
    rw [jL_s]
    split <;> split <;> omega
section JL
variable {D : va_G} {cy : Nat → ClassId} {a q : Nat → Nat} {σ : Nat → Nat → Int} {A : Nat → Prop} {X V X' V' Y Z e1 e2 e3 : Nat × va_E} {H : Heap} {w : va_W}
theorem js_i : ((wld cy a q σ ++ [] ++ [e1]) ++ [e2]).set (wld cy a q σ ++ []).length e3 = wld cy a q σ ++ [e3, e2] := by
  rw [List.append_nil, List.append_assoc, List.set_append_right _ _ (Nat.le_refl _), Nat.sub_self]
  rfl
theorem js62 : (wld cy a q σ ++ [X, V]).set 62 X' = wld cy a q σ ++ [X', V] := by
  rw [List.set_append_right _ _ (by rw [wld_len]; exact Nat.le_refl _), wld_len]
  rfl
theorem js63 : (wld cy a q σ ++ [X, V]).set 63 V' = wld cy a q σ ++ [X, V'] := by
  rw [List.set_append_right _ _ (by rw [wld_len]; omega), wld_len]
  rfl
theorem js_at62 : (wld cy a q σ ++ [X, V])[62]? = some X := by
  rw [List.getElem?_append_right (by rw [wld_len]; exact Nat.le_refl _), wld_len]
  rfl
theorem js_at63 : (wld cy a q σ ++ [X, V])[63]? = some V := by
  rw [List.getElem?_append_right (by rw [wld_len]; omega), wld_len]
  rfl
theorem js_str : (((((wld cy a q σ ++ [X, V]) ++ [e1]).set (wld cy a q σ ++ [X, V]).length e2) ++ [Z]).set (wld cy a q σ ++ [X, V]).length Y) = wld cy a q σ ++ [X, V, Y, Z] := by
  rw [List.set_append_right _ _ (Nat.le_refl _), Nat.sub_self, List.append_assoc, List.set_append_right _ _ (Nat.le_refl _), Nat.sub_self, List.append_assoc]
  rfl
theorem js_drop : ∀ k x, (w ++ [Y, Z])[k]? = some x → ∃ j, (w ++ [X, V, Y, Z])[j]? = some x ∧ ((k < w.length ∧ j = k) ∨ (w.length ≤ k ∧ j = k + 2)) := by
  intro k x h
  by_cases hk : k < w.length
  · exact ⟨k, by rw [List.getElem?_append_left hk] at h ⊢; exact h, Or.inl ⟨hk, rfl⟩⟩
  · refine ⟨k + 2, ?_, Or.inr ⟨by omega, rfl⟩⟩
    rw [List.getElem?_append_right (by omega)] at h ⊢
    rw [show k + 2 - w.length = (k - w.length) + 2 by omega]
    exact h
theorem js_dropP (h : va_P D vwCl (w ++ [X, V, Y, Z]) H) : va_P D vwCl (w ++ [Y, Z]) H := fun k x hx => by
  obtain ⟨j, hj, -⟩ := js_drop (X := X) (V := V) k x hx
  exact h j x hj
theorem js_dropD (h : va_D A (w ++ [X, V, Y, Z])) : va_D A (w ++ [Y, Z]) := by
  refine ⟨fun i j x y hi hj e => ?_, fun k x hx => ?_⟩
  · obtain ⟨i1, h1, c1⟩ := js_drop (X := X) (V := V) i x hi
    obtain ⟨j1, h2, c2⟩ := js_drop (X := X) (V := V) j y hj
    have := h.1 i1 j1 x y h1 h2 e
    omega
  · obtain ⟨j, hj, -⟩ := js_drop (X := X) (V := V) k x hx
    exact h.2 j x hj
end JL
set_option maxHeartbeats 4000000 in
set_option maxRecDepth 100000 in
theorem c_X7_jibs (l : Launch) (D : va_G) (cy : Nat → ClassId) (a q : Nat → Nat) (σ : Nat → Nat → Int) (sz : Nat) (J : jT) (t0 wi : Int) (hO : okA t0 wi q σ) : Met l yX7_jibs wsX7_jibs ({ frames := 13, cells := 4, slots := 40, locals := 700 }) (va_Pc [.ref (a 0)] (fun U => U.heap.size = sz ∧ Wd D cy a q σ U ∧ jZ J D (wF a sz) U)) (va_Qr (fun (_ : Nat × (Nat → Int32)) => True) (fun u y t => va_P D vwCl (wld cy a q σ ++ [(y, .inr (0, [.ref u.1, .int (zI 0), .int (zI 0), .int (zI 0)])), (u.1, .inl (J.1, (jL σ (σ 0 5).toNat).toNat, .inl u.2))]) t.heap ∧ va_D (wF a sz) (wld cy a q σ ++ [(y, .inr (0, [.ref u.1, .int (zI 0), .int (zI 0), .int (zI 0)])), (u.1, .inl (J.1, (jL σ (σ 0 5).toNat).toNat, .inl u.2))])) (wF a sz)) 4 40 (wF a sz) := by
  refine Met.ofW (cc := cX7_jibs) (maxL := 3) (ret := (some (.object "java/lang/String"))) (by decide) rfl ?_
  intro p e s m args below meth c s₁ B hml hpc0
  obtain ⟨rfl, hsz, hW0, hZ⟩ := hpc0
  have hx := B.exec
  have hb := B.bytes
  have hr := B.returns
  have hts := atoms_spec (ws := wsX7_jibs) B.pre
  have hown : s.vm.findClass RX7 = some m.cls := findClass_of_methodNamed B.named
  have hlocks := B.notSynchronized
  subst hsz
  obtain ⟨hP00, hE0⟩ := id hW0
  obtain ⟨hKw, hinj, hU0, hN0, hstr, hnest⟩ := id hE0
  have hK := hZ.1
  obtain ⟨oS, oW, oC, oZ, oM, oL, oPg, oQ, oH⟩ := id hO
  unfold okS at oS
  unfold okL at oL
  have hP : va_P D vwCl (wld cy a q σ ++ []) s.heap := by rw [List.append_nil]; exact hP00
  have hD : va_D (wF a s.heap.size) (wld cy a q σ ++ []) := wD_of hinj
  have hA : ∀ x : Nat, s.heap.size ≤ x → wF a s.heap.size x := fun _ h => Or.inr h
  have hS : va_S (wF a s.heap.size) s.heap s.heap [] := va_S.rf
  generalize wF a s.heap.size = A at hD hA hS hZ ⊢
  have hl := lv_entry ([.ref (a 0)]) (n := 3) (Nat.le_of_ble_eq_true rfl)
  rw [lg_entry_eq]
  generalize (lg_sl ([.ref (a 0)]) ++ List.replicate (3 - (lg_sl ([.ref (a 0)])).length) Slot.unset).toArray = ls at hl ⊢
  have hl : lv_has ls 3 [(0, .ref (a 0))] := hl
  have k18 := hts (.fieldLink RX7 18 "Slewfree" "cranes" "[LSlewfree$Crane;") (by decide +kernel)
  have k57 := hts (.fieldLink RX7 57 "Slewfree" "craneCount" "I") (by decide +kernel)
  have k79 := hts (.fieldLink RX7 79 "Slewfree$Crane" "isLocked" "Z") (by decide +kernel)
  have k207 := hts (.fieldLink RX7 207 "Slewfree$Crane" "angle" "I") (by decide +kernel)
  have inJ4 : ∀ w ∈ u_ws RJ4 TJ4 4, w ∈ wsX7_jibs := by decide +kernel
  have inX0 : ∀ w ∈ u_ws RX0 TX0 12, w ∈ wsX7_jibs := by decide +kernel
  have inX7 : ∀ w ∈ u_ws RX7 TX7 9, w ∈ wsX7_jibs := by decide +kernel
  obtain ⟨ws0, ews0⟩ : ∃ z9 : va_W, z9 = wld cy a q σ ++ [] := ⟨_, rfl⟩
  rw [← ews0] at hP hD
  refine w_new (ci := 1) (fs := [.null, .int (zI (0)), .int (zI (0)), .int (zI (0))]) (C := RJ4) (T := TJ4) (N := 4) hx hb hts inJ4 tyJ4 tyJ4_ok hown (hts (.classLink RX7 297 RJ4) (by decide +kernel)) (hts (.instantiable RJ4 4) (by decide +kernel)) (hts (.initialized RJ4) (by decide +kernel)) hK hP hD hS hA rfl (fun j hj => by rcases (show j = 0 ∨ j = 1 ∨ j = 2 ∨ j = 3 by omega) with rfl | rfl | rfl | rfl <;> rfl) (show 0 + 1 ≤ 4 by omega) (show 0 + 4 ≤ 40 by omega) dX7_jibs_0 (fun xq H hxq hsz1 ho1 hP hD hS1 => ?_)
  have hS := hS1
  obtain ⟨w0, ew0⟩ : ∃ z9 : va_W, z9 = ws0 ++ [((xq, .inr (1, [.null, .int (zI (0)), .int (zI (0)), .int (zI (0))])) : Nat × va_E)] := ⟨_, rfl⟩
  rw [← ew0] at hP hD
  have ex_w0 : w0[ws0.length]? = some ((xq, .inr (1, [.null, .int (zI (0)), .int (zI (0)), .int (zI (0))])) : Nat × va_E) := by rw [ew0]; exact js_new
  refine lv_dup hx hb dX7_jibs_3 rfl ?_
  refine va_callv (va_runI (As := []) (rest := [.ref (xq)]) ⟨hx, hb, hml, hown, hts⟩ (c_J4_init_da8c8 l D J A H.size (fun y h => hA y (Nat.le_trans hS.1 h)) w0 xq ws0.length ex_w0) (cwI 0 hts gX7_jibs_J4_init_da8c8 rfl rfl rfl (hts (.initialized RJ4) (by decide +kernel)) (hts (.methodLink RX7 299 yJ4_init_da8c8) (by decide +kernel)) (hts (.instanceMethod yJ4_init_da8c8) (by decide +kernel)) rfl (by decide +kernel) ⟨Nat.le_of_ble_eq_true rfl, Nat.le_of_ble_eq_true rfl⟩) ⟨jW_blind, fun U hU hW => ⟨rfl, by rw [hU], jW_mk hP hD hZ hS hU hW⟩⟩ rfl rfl hl.1 rfl (lv_room (Nat.le_of_ble_eq_true rfl)) dX7_jibs_4 ⟨(show 0 + 1 + 1 ≤ 4 by omega), (show 0 + 4 + 16 ≤ 40 by omega)⟩) hS (fun _ _ h => h) (fun _ h => h) (fun u9 t9 H locs ht hvm hw hB hz hk hS1 => ?_)
  have eu9 := True.intro
  obtain ⟨u4, eu4⟩ : ∃ z, z = u9 := ⟨u9, rfl⟩
  rw [← eu4] at hB
  try rw [← eu4] at hw
  obtain ⟨hP9, hD9⟩ := hB
  rw [ht] at hP9
  have hP := hP9
  have hD := hD9
  have hS := hS1
  have hw4 := hw
  try dsimp only at hw4 hP hD
  obtain ⟨w4a, ew4a⟩ : ∃ z9 : va_W, z9 = w0 ++ [((u4, .inl (J.1, 16, .inl (fun _ => 0))) : Nat × va_E)] := ⟨_, rfl⟩
  rw [← ew4a] at hP hD
  have ex_w4a : w4a[ws0.length]? = some ((xq, .inr (1, [.null, .int (zI (0)), .int (zI (0)), .int (zI (0))])) : Nat × va_E) := by rw [ew4a]; exact js_old ex_w0
  have ev4_w4a : w4a[w0.length]? = some ((u4, .inl (J.1, 16, .inl (fun _ => 0))) : Nat × va_E) := by rw [ew4a]; exact js_new
  obtain ⟨w4b, ew4b⟩ : ∃ z9 : va_W, z9 = w4a.set ws0.length ((xq, .inr (1, [.ref (u4), .int (zI (0)), .int (zI (0)), .int (zI (0))])) : Nat × va_E) := ⟨_, rfl⟩
  rw [← ew4b] at hP hD
  have ex_w4b : w4b[ws0.length]? = some ((xq, .inr (1, [.ref (u4), .int (zI (0)), .int (zI (0)), .int (zI (0))])) : Nat × va_E) := by rw [ew4b]; exact js_eq ex_w4a
  have ev4_w4b : w4b[w0.length]? = some ((u4, .inl (J.1, 16, .inl (fun _ => 0))) : Nat × va_E) := by rw [ew4b]; exact js_ne ex_w4a ev4_w4a (by intro h9; cases h9)
  refine lv_astore_n (lv' := [(1, .ref (xq)), (0, .ref (a 0))]) hx hb dX7_jibs_7 rfl hl (by decide) rfl (fun ls hl => ?_)
  refine lv_iconst (v := zI 0) hx hb dX7_jibs_8 rfl ?_
  refine lv_istore_n (lv' := [(2, .int (zI (0))), (1, .ref (xq)), (0, .ref (a 0))]) hx hb dX7_jibs_9 rfl hl (by decide) rfl (fun ls hl => ?_)
  have eW : w4b = wld cy a q σ ++ [((xq, .inr (1, [.ref (u4), .int (zI 0), .int (zI 0), .int (zI (jL σ 0))])) : Nat × va_E), ((u4, .inl (J.1, 16, .inl (fun _ => 0))) : Nat × va_E)] := by rw [ew4b, ew4a, ew0, ews0]; exact js_i
  rw [eW] at hP hD
  obtain ⟨vq, evq⟩ : ∃ z9 : Nat, z9 = u4 := ⟨_, rfl⟩
  rw [← evq] at hP hD
  have loop : ∀ (d : Nat) (i : Nat) (f : Nat → Int32) (H : Heap) (locs : List Loc) (ls : Array Slot), 3 - i < d → (i : Int) ≤ σ 0 5 → jF f → va_P D vwCl (wld cy a q σ ++ [((xq, .inr (1, [.ref (vq), .int (zI 0), .int (zI 0), .int (zI (jL σ i))])) : Nat × va_E), ((vq, .inl (J.1, 16, .inl f)) : Nat × va_E)]) H → va_D A (wld cy a q σ ++ [((xq, .inr (1, [.ref (vq), .int (zI 0), .int (zI 0), .int (zI (jL σ i))])) : Nat × va_E), ((vq, .inl (J.1, 16, .inl f)) : Nat × va_E)]) → va_S A s.heap H locs → lv_has ls 3 [(0, .ref (a 0)), (1, .ref xq), (2, .int (zI (i : Int)))] → W p l e (headSpec wsX7_jibs ({ frames := 13, cells := 4, slots := 40, locals := 700 })).room s m ([.ref (a 0)] : List Value).toArray below meth c H locs (2) (20) (MQ below (va_Qr (fun (_ : Nat × (Nat → Int32)) => True) (fun u y t => va_P D vwCl (wld cy a q σ ++ [(y, .inr (0, [.ref u.1, .int (zI 0), .int (zI 0), .int (zI 0)])), (u.1, .inl (J.1, (jL σ (σ 0 5).toNat).toNat, .inl u.2))]) t.heap ∧ va_D A (wld cy a q σ ++ [(y, .inr (0, [.ref u.1, .int (zI 0), .int (zI 0), .int (zI 0)])), (u.1, .inl (J.1, (jL σ (σ 0 5).toNat).toNat, .inl u.2))])) A) ([.ref (a 0)] : List Value).toArray s 4 40 A) (F0 m 10 ls []) := by
    intro d
    induction d with
    | zero => intro i f H locs ls h0; exact absurd h0 (Nat.not_lt_zero _)
    | succ d ihd =>
      intro i f H locs ls hms hi hF hP hD hS hl
      have hjb := jL_b (σ := σ) i
      obtain ⟨wl, ewl⟩ : ∃ z9 : va_W, z9 = wld cy a q σ ++ [((xq, .inr (1, [.ref (vq), .int (zI 0), .int (zI 0), .int (zI (jL σ i))])) : Nat × va_E), ((vq, .inl (J.1, 16, .inl f)) : Nat × va_E)] := ⟨_, rfl⟩
      rw [← ewl] at hP hD
      have es : wl[0]? = some ((a 0, .inr (9, [.ref (a 1), .ref (a 2), .ref (a 6), .ref (a 13), .ref (a 20), .int (zI (σ 0 5)), .int (zI (σ 0 6)), .int (zI (σ 0 7)), .int (zI (σ 0 8))])) : Nat × va_E) := by rw [ewl]; exact wg_S
      have ea : wl[2]? = some ((a 2, .inl (cy 0, 3, .inr (.inr (.inr (.inr (fun i => some (a (3 + i)))))))) : Nat × va_E) := by rw [ewl]; exact wg_AC
      have ex : wl[62]? = some ((xq, .inr (1, [.ref (vq), .int (zI (0)), .int (zI (0)), .int (zI (jL σ i))])) : Nat × va_E) := by rw [ewl]; exact js_at62
      have ev : wl[63]? = some ((vq, .inl (J.1, 16, .inl f)) : Nat × va_E) := by rw [ewl]; exact js_at63
      refine lv_iload_n hx hb dX7_jibs_10 rfl (lv_at hl 2 rfl) ?_
      refine lv_aload_n hx hb dX7_jibs_11 rfl (lv_at hl 0 rfl) ?_
      refine va_get (D := D) (ci := 9) (v := .int (zI (σ 0 5))) (C := RX7) (T := TX7) (N := 9) hx hb hts inX7 hown hK hP 0 es rfl 5 (by decide) k57 (fun _ h9 => h9) rfl dX7_jibs_12 ?_
      refine z_icmp_ge (tgt := 73) hx hb dX7_jibs_15 (by decide) (by omega) (by omega) (fun cd15 => ?_) (fun cd15 => ?_)
      · skip
        have hkq : jL σ i = (((jL σ i).toNat : Nat) : Int) := by omega
        obtain ⟨kq, ekq⟩ : ∃ z9 : Nat, z9 = (jL σ i).toNat := ⟨_, rfl⟩
        have hkq2 : jL σ i = (kq : Int) := by omega
        have ex0 : wl[62]? = some ((xq, .inr (1, [.ref (vq), .int (zI 0), .int (zI 0), .int (zI ((kq : Int)))])) : Nat × va_E) := by rw [ex, hkq2]
        refine lv_aload_n hx hb dX7_jibs_73 rfl (lv_at hl 1 rfl) ?_
        refine va_callr (va_runV (As := []) (rest := []) ⟨hx, hb, hml, hown, hts⟩ (c_J4_toString_0e30d l D J A H.size (fun y h => hA y (Nat.le_trans hS.1 h)) wl xq vq kq f 62 ex0 63 ev (by omega) hF) (cwV 0 hts gX7_jibs_J4_toString_0e30d rfl rfl rfl (by decide +kernel) ⟨Nat.le_of_ble_eq_true rfl, Nat.le_of_ble_eq_true rfl⟩) ⟨jW_blind, va_recv hK hP (ci := 1) (q0 := 62) rfl ex0, fun U hU hW => ⟨rfl, by rw [hU], jW_mk hP hD hZ hS hU hW⟩⟩ rfl rfl hl.1 rfl (lv_room (Nat.le_of_ble_eq_true rfl)) dX7_jibs_74 ⟨(show 2 + 2 ≤ 4 by omega), (show 20 + 20 ≤ 40 by omega)⟩) hS (fun _ _ h => h) (fun _ h => h) (fun u9 ra9 t9 H locs ht hvm hw hB hz hk hS1 => ?_)
        obtain ⟨y174, w174, g174⟩ := u9
        obtain ⟨hx9, hP9, hD9⟩ := hB
        rw [ht] at hP9
        have hP := hP9
        have hD := hD9
        have hS := hS1
        have hw74 := hw
        try dsimp only at hw74 hP hD
        obtain ⟨w74a, ew74a⟩ : ∃ z9 : va_W, z9 = wl ++ [((y174, .inr (0, [.null, .int (zI (0)), .int (zI (0)), .int (zI (0))])) : Nat × va_E)] := ⟨_, rfl⟩
        rw [← ew74a] at hP hD
        have es_w74a : w74a[0]? = some ((a 0, .inr (9, [.ref (a 1), .ref (a 2), .ref (a 6), .ref (a 13), .ref (a 20), .int (zI (σ 0 5)), .int (zI (σ 0 6)), .int (zI (σ 0 7)), .int (zI (σ 0 8))])) : Nat × va_E) := by rw [ew74a]; exact js_old es
        have ea_w74a : w74a[2]? = some ((a 2, .inl (cy 0, 3, .inr (.inr (.inr (.inr (fun i => some (a (3 + i)))))))) : Nat × va_E) := by rw [ew74a]; exact js_old ea
        have ex0_w74a : w74a[62]? = some ((xq, .inr (1, [.ref (vq), .int (zI (0)), .int (zI (0)), .int (zI ((kq : Int)))])) : Nat × va_E) := by rw [ew74a]; exact js_old ex0
        have ev_w74a : w74a[63]? = some ((vq, .inl (J.1, 16, .inl f)) : Nat × va_E) := by rw [ew74a]; exact js_old ev
        have ey74_w74a : w74a[wl.length]? = some ((y174, .inr (0, [.null, .int (zI (0)), .int (zI (0)), .int (zI (0))])) : Nat × va_E) := by rw [ew74a]; exact js_new
        obtain ⟨w74b, ew74b⟩ : ∃ z9 : va_W, z9 = w74a.set wl.length ((y174, .inr (0, [.null, .int (zI (0)), .int (zI (0)), .int (zI (0))])) : Nat × va_E) := ⟨_, rfl⟩
        rw [← ew74b] at hP hD
        have es_w74b : w74b[0]? = some ((a 0, .inr (9, [.ref (a 1), .ref (a 2), .ref (a 6), .ref (a 13), .ref (a 20), .int (zI (σ 0 5)), .int (zI (σ 0 6)), .int (zI (σ 0 7)), .int (zI (σ 0 8))])) : Nat × va_E) := by rw [ew74b]; exact js_ne ey74_w74a es_w74a (by intro h9; cases h9)
        have ea_w74b : w74b[2]? = some ((a 2, .inl (cy 0, 3, .inr (.inr (.inr (.inr (fun i => some (a (3 + i)))))))) : Nat × va_E) := by rw [ew74b]; exact js_ne ey74_w74a ea_w74a (by intro h9; cases h9)
        have ex0_w74b : w74b[62]? = some ((xq, .inr (1, [.ref (vq), .int (zI (0)), .int (zI (0)), .int (zI ((kq : Int)))])) : Nat × va_E) := by rw [ew74b]; exact js_ne ey74_w74a ex0_w74a (by intro h9; cases h9)
        have ev_w74b : w74b[63]? = some ((vq, .inl (J.1, 16, .inl f)) : Nat × va_E) := by rw [ew74b]; exact js_ne ey74_w74a ev_w74a (by intro h9; cases h9)
        have ey74_w74b : w74b[wl.length]? = some ((y174, .inr (0, [.null, .int (zI (0)), .int (zI (0)), .int (zI (0))])) : Nat × va_E) := by rw [ew74b]; exact js_eq ey74_w74a
        obtain ⟨w74c, ew74c⟩ : ∃ z9 : va_W, z9 = w74b ++ [((w174, .inl (J.1, kq, .inl g174)) : Nat × va_E)] := ⟨_, rfl⟩
        rw [← ew74c] at hP hD
        have es_w74c : w74c[0]? = some ((a 0, .inr (9, [.ref (a 1), .ref (a 2), .ref (a 6), .ref (a 13), .ref (a 20), .int (zI (σ 0 5)), .int (zI (σ 0 6)), .int (zI (σ 0 7)), .int (zI (σ 0 8))])) : Nat × va_E) := by rw [ew74c]; exact js_old es_w74b
        have ea_w74c : w74c[2]? = some ((a 2, .inl (cy 0, 3, .inr (.inr (.inr (.inr (fun i => some (a (3 + i)))))))) : Nat × va_E) := by rw [ew74c]; exact js_old ea_w74b
        have ex0_w74c : w74c[62]? = some ((xq, .inr (1, [.ref (vq), .int (zI (0)), .int (zI (0)), .int (zI ((kq : Int)))])) : Nat × va_E) := by rw [ew74c]; exact js_old ex0_w74b
        have ev_w74c : w74c[63]? = some ((vq, .inl (J.1, 16, .inl f)) : Nat × va_E) := by rw [ew74c]; exact js_old ev_w74b
        have ey74_w74c : w74c[wl.length]? = some ((y174, .inr (0, [.null, .int (zI (0)), .int (zI (0)), .int (zI (0))])) : Nat × va_E) := by rw [ew74c]; exact js_old ey74_w74b
        have ew74_w74c : w74c[w74b.length]? = some ((w174, .inl (J.1, kq, .inl g174)) : Nat × va_E) := by rw [ew74c]; exact js_new
        obtain ⟨w74d, ew74d⟩ : ∃ z9 : va_W, z9 = w74c.set wl.length ((y174, .inr (0, [.ref (w174), .int (zI (0)), .int (zI (0)), .int (zI (0))])) : Nat × va_E) := ⟨_, rfl⟩
        rw [← ew74d] at hP hD
        have es_w74d : w74d[0]? = some ((a 0, .inr (9, [.ref (a 1), .ref (a 2), .ref (a 6), .ref (a 13), .ref (a 20), .int (zI (σ 0 5)), .int (zI (σ 0 6)), .int (zI (σ 0 7)), .int (zI (σ 0 8))])) : Nat × va_E) := by rw [ew74d]; exact js_ne ey74_w74c es_w74c (by intro h9; cases h9)
        have ea_w74d : w74d[2]? = some ((a 2, .inl (cy 0, 3, .inr (.inr (.inr (.inr (fun i => some (a (3 + i)))))))) : Nat × va_E) := by rw [ew74d]; exact js_ne ey74_w74c ea_w74c (by intro h9; cases h9)
        have ex0_w74d : w74d[62]? = some ((xq, .inr (1, [.ref (vq), .int (zI (0)), .int (zI (0)), .int (zI ((kq : Int)))])) : Nat × va_E) := by rw [ew74d]; exact js_ne ey74_w74c ex0_w74c (by intro h9; cases h9)
        have ev_w74d : w74d[63]? = some ((vq, .inl (J.1, 16, .inl f)) : Nat × va_E) := by rw [ew74d]; exact js_ne ey74_w74c ev_w74c (by intro h9; cases h9)
        have ey74_w74d : w74d[wl.length]? = some ((y174, .inr (0, [.ref (w174), .int (zI (0)), .int (zI (0)), .int (zI (0))])) : Nat × va_E) := by rw [ew74d]; exact js_eq ey74_w74c
        have ew74_w74d : w74d[w74b.length]? = some ((w174, .inl (J.1, kq, .inl g174)) : Nat × va_E) := by rw [ew74d]; exact js_ne ey74_w74c ew74_w74c (by intro h9; cases h9)
        rw [hx9]
        have eW : w74d = wld cy a q σ ++ [((xq, .inr (1, [.ref (vq), .int (zI (0)), .int (zI (0)), .int (zI (jL σ i))])) : Nat × va_E), ((vq, .inl (J.1, 16, .inl f)) : Nat × va_E), ((y174, .inr (0, [.ref (w174), .int (zI (0)), .int (zI (0)), .int (zI (0))])) : Nat × va_E), ((w174, .inl (J.1, kq, .inl g174)) : Nat × va_E)] := by rw [ew74d, ew74c, ew74b, ew74a, ewl]; exact js_str
        rw [eW] at hP hD
        have hP := js_dropP hP
        have hD := js_dropD hD
        rw [ekq] at hP hD
        have hi9 : (σ 0 5).toNat = i := by omega
        refine W.widen (k := 4) (n := 40) (by omega) (by omega) ?_
        exact W.aret (v := .ref y174) hx hb hr (Or.inl ⟨_, rfl⟩) (Or.inr ⟨_, rfl⟩) (fun t9 ht hW => ⟨⟨(w174, g174), _, rfl, trivial, by rw [hi9]; show va_P D vwCl _ t9.heap ∧ _; rw [ht]; exact ⟨hP, hD⟩⟩, hS.F ht⟩) hS.2.2 dX7_jibs_77
      · skip
        have hi3 : i < 3 := by omega
        have ec : wl[3 + i]? = some ((a (3 + i), .inr (2, [.int (zI (σ (3 + i) 0)), .int (zI (σ (3 + i) 1)), .int (zI (σ (3 + i) 2)), .int (zI (σ (3 + i) 3)), .int (zI (σ (3 + i) 4)), .int (zI (σ (3 + i) 5)), .int (zI (σ (3 + i) 6)), .int (zI (σ (3 + i) 7)), .int (zI (σ (3 + i) 8)), .int (zI (σ (3 + i) 9)), .int (zI (σ (3 + i) 10)), .int (zI (σ (3 + i) 11))])) : Nat × va_E) := by rw [ewl]; exact wg_C hi3
        have oCi := oC i hi3
        unfold okC at oCi
        have hdg9 : 1 ≤ (if σ (3 + i) 3 < 10 then 1 else 2) ∧ (if σ (3 + i) 3 < 10 then 1 else 2) ≤ 2 := by split <;> omega
        refine lv_iload_n hx hb dX7_jibs_18 rfl (lv_at hl 2 rfl) ?_
        refine z_if_le (tgt := 29) hx hb dX7_jibs_19 (by decide) (by omega) (fun cd19 => ?_) (fun cd19 => ?_)
        · skip
          refine lv_aload_n hx hb dX7_jibs_29 rfl (lv_at hl 1 rfl) ?_
          refine lv_aload_n hx hb dX7_jibs_30 rfl (lv_at hl 0 rfl) ?_
          refine va_get (D := D) (ci := 9) (v := .ref (a 2)) (C := RX7) (T := TX7) (N := 9) hx hb hts inX7 hown hK hP 0 es rfl 1 (by decide) k18 (fun _ h9 => h9) rfl dX7_jibs_31 ?_
          refine lv_iload_n hx hb dX7_jibs_34 rfl (lv_at hl 2 rfl) ?_
          refine z_aald (i := i) hx hb hKw hP 2 0 ea rfl rfl hi3 (by omega) dX7_jibs_35 ?_
          refine va_get (D := D) (ci := 2) (v := .int (zI (σ (3 + i) 5))) (C := RX0) (T := TX0) (N := 12) hx hb hts inX0 hown hK hP (3 + i) ec rfl 5 (by decide) k79 (fun _ h9 => h9) rfl dX7_jibs_36 ?_
          refine z_if_eq (tgt := 47) hx hb dX7_jibs_39 (by decide) (by omega) (fun cd39 => ?_) (fun cd39 => ?_)
          · skip
            refine lv_bipush (v := zI 70) hx hb dX7_jibs_47 (by decide +kernel) ?_
            refine va_callr (va_runV (As := [.int (zI (70))]) (rest := []) ⟨hx, hb, hml, hown, hts⟩ (c_J4_append_cf468 l D J A H.size (fun y h => hA y (Nat.le_trans hS.1 h)) wl xq vq (jL σ i) f 70 62 ex 63 ev (by omega) (by omega) hF) (cwV 1 hts gX7_jibs_J4_append_cf468 rfl rfl rfl (by decide +kernel) ⟨Nat.le_of_ble_eq_true rfl, Nat.le_of_ble_eq_true rfl⟩) ⟨jW_blind, va_recv hK hP (ci := 1) (q0 := 62) rfl ex, fun U hU hW => ⟨rfl, by rw [hU], jW_mk hP hD hZ hS hU hW⟩⟩ rfl rfl hl.1 rfl (lv_room (Nat.le_of_ble_eq_true rfl)) dX7_jibs_49 ⟨(show 2 + 0 ≤ 4 by omega), (show 20 + 0 ≤ 40 by omega)⟩) hS (fun _ _ h => h) (fun _ h => h) (fun u9 ra9 t9 H locs ht hvm hw hB hz hk hS1 => ?_)
            have eu9 := True.intro
            obtain ⟨u49, eu49⟩ : ∃ z, z = u9 := ⟨u9, rfl⟩
            rw [← eu49] at hB
            try rw [← eu49] at hw
            obtain ⟨hx9, hP9, hD9⟩ := hB
            rw [ht] at hP9
            have hP := hP9
            have hD := hD9
            have hS := hS1
            have hw49 := hw
            try dsimp only at hw49 hP hD
            obtain ⟨w49a, ew49a⟩ : ∃ z9 : va_W, z9 = wl.set 62 ((xq, .inr (1, [.ref (vq), .int (zI (0)), .int (zI (0)), .int (zI ((jL σ i) + 1))])) : Nat × va_E) := ⟨_, rfl⟩
            rw [← ew49a] at hP hD
            have es_w49a : w49a[0]? = some ((a 0, .inr (9, [.ref (a 1), .ref (a 2), .ref (a 6), .ref (a 13), .ref (a 20), .int (zI (σ 0 5)), .int (zI (σ 0 6)), .int (zI (σ 0 7)), .int (zI (σ 0 8))])) : Nat × va_E) := by rw [ew49a]; exact js_ne ex es (by intro h9; cases h9)
            have ea_w49a : w49a[2]? = some ((a 2, .inl (cy 0, 3, .inr (.inr (.inr (.inr (fun i => some (a (3 + i)))))))) : Nat × va_E) := by rw [ew49a]; exact js_ne ex ea (by intro h9; cases h9)
            have ex_w49a : w49a[62]? = some ((xq, .inr (1, [.ref (vq), .int (zI (0)), .int (zI (0)), .int (zI ((jL σ i) + 1))])) : Nat × va_E) := by rw [ew49a]; exact js_eq ex
            have ev_w49a : w49a[63]? = some ((vq, .inl (J.1, 16, .inl f)) : Nat × va_E) := by rw [ew49a]; exact js_ne ex ev (by intro h9; cases h9)
            have ec_w49a : w49a[(3 + i)]? = some ((a (3 + i), .inr (2, [.int (zI (σ (3 + i) 0)), .int (zI (σ (3 + i) 1)), .int (zI (σ (3 + i) 2)), .int (zI (σ (3 + i) 3)), .int (zI (σ (3 + i) 4)), .int (zI (σ (3 + i) 5)), .int (zI (σ (3 + i) 6)), .int (zI (σ (3 + i) 7)), .int (zI (σ (3 + i) 8)), .int (zI (σ (3 + i) 9)), .int (zI (σ (3 + i) 10)), .int (zI (σ (3 + i) 11))])) : Nat × va_E) := by rw [ew49a]; exact js_ne ex ec (by intro h9; cases h9)
            obtain ⟨w49b, ew49b⟩ : ∃ z9 : va_W, z9 = w49a.set 63 ((vq, .inl (J.1, 16, .inl u49)) : Nat × va_E) := ⟨_, rfl⟩
            rw [← ew49b] at hP hD
            have es_w49b : w49b[0]? = some ((a 0, .inr (9, [.ref (a 1), .ref (a 2), .ref (a 6), .ref (a 13), .ref (a 20), .int (zI (σ 0 5)), .int (zI (σ 0 6)), .int (zI (σ 0 7)), .int (zI (σ 0 8))])) : Nat × va_E) := by rw [ew49b]; exact js_ne ev_w49a es_w49a (by intro h9; cases h9)
            have ea_w49b : w49b[2]? = some ((a 2, .inl (cy 0, 3, .inr (.inr (.inr (.inr (fun i => some (a (3 + i)))))))) : Nat × va_E) := by rw [ew49b]; exact js_ne ev_w49a ea_w49a (by simp)
            have ex_w49b : w49b[62]? = some ((xq, .inr (1, [.ref (vq), .int (zI (0)), .int (zI (0)), .int (zI ((jL σ i) + 1))])) : Nat × va_E) := by rw [ew49b]; exact js_ne ev_w49a ex_w49a (by intro h9; cases h9)
            have ev_w49b : w49b[63]? = some ((vq, .inl (J.1, 16, .inl u49)) : Nat × va_E) := by rw [ew49b]; exact js_eq ev_w49a
            have ec_w49b : w49b[(3 + i)]? = some ((a (3 + i), .inr (2, [.int (zI (σ (3 + i) 0)), .int (zI (σ (3 + i) 1)), .int (zI (σ (3 + i) 2)), .int (zI (σ (3 + i) 3)), .int (zI (σ (3 + i) 4)), .int (zI (σ (3 + i) 5)), .int (zI (σ (3 + i) 6)), .int (zI (σ (3 + i) 7)), .int (zI (σ (3 + i) 8)), .int (zI (σ (3 + i) 9)), .int (zI (σ (3 + i) 10)), .int (zI (σ (3 + i) 11))])) : Nat × va_E) := by rw [ew49b]; exact js_ne ev_w49a ec_w49a (by intro h9; cases h9)
            rw [hx9]
            refine lv_pop hx hb dX7_jibs_52 rfl ?_
            refine lv_aload_n hx hb dX7_jibs_53 rfl (lv_at hl 1 rfl) ?_
            refine lv_aload_n hx hb dX7_jibs_54 rfl (lv_at hl 0 rfl) ?_
            refine va_get (D := D) (ci := 9) (v := .ref (a 2)) (C := RX7) (T := TX7) (N := 9) hx hb hts inX7 hown hK hP 0 es_w49b rfl 1 (by decide) k18 (fun _ h9 => h9) rfl dX7_jibs_55 ?_
            refine lv_iload_n hx hb dX7_jibs_58 rfl (lv_at hl 2 rfl) ?_
            refine z_aald (i := i) hx hb hKw hP 2 0 ea_w49b rfl rfl hi3 (by omega) dX7_jibs_59 ?_
            refine va_get (D := D) (ci := 2) (v := .int (zI (σ (3 + i) 3))) (C := RX0) (T := TX0) (N := 12) hx hb hts inX0 hown hK hP (3 + i) ec_w49b rfl 3 (by decide) k207 (fun _ h9 => h9) rfl dX7_jibs_60 ?_
            refine va_callr (va_runV (As := [.int (zI (σ (3 + i) 3))]) (rest := []) ⟨hx, hb, hml, hown, hts⟩ (c_J4_append_bf812 l D J A H.size (fun y h => hA y (Nat.le_trans hS.1 h)) w49b xq vq ((jL σ i) + 1) u49 (σ (3 + i) 3) 62 ex_w49b 63 ev_w49b (by omega) (by omega) hw49) (cwV 1 hts gX7_jibs_J4_append_bf812 rfl rfl rfl (by decide +kernel) ⟨Nat.le_of_ble_eq_true rfl, Nat.le_of_ble_eq_true rfl⟩) ⟨jW_blind, va_recv hK hP (ci := 1) (q0 := 62) rfl ex_w49b, fun U hU hW => ⟨rfl, by rw [hU], jW_mk hP hD hZ hS hU hW⟩⟩ rfl rfl hl.1 rfl (lv_room (Nat.le_of_ble_eq_true rfl)) dX7_jibs_63 ⟨(show 2 + 0 + 0 ≤ 4 by omega), (show 20 + 0 + 0 ≤ 40 by omega)⟩) hS (fun _ _ h => h) (fun _ h => h) (fun u9 ra9 t9 H locs ht hvm hw hB hz hk hS1 => ?_)
            have eu9 := True.intro
            obtain ⟨u63, eu63⟩ : ∃ z, z = u9 := ⟨u9, rfl⟩
            rw [← eu63] at hB
            try rw [← eu63] at hw
            obtain ⟨hx9, hP9, hD9⟩ := hB
            rw [ht] at hP9
            have hP := hP9
            have hD := hD9
            have hS := hS1
            have hw63 := hw
            try dsimp only at hw63 hP hD
            obtain ⟨w63a, ew63a⟩ : ∃ z9 : va_W, z9 = w49b.set 63 ((vq, .inl (J.1, 16, .inl u63)) : Nat × va_E) := ⟨_, rfl⟩
            rw [← ew63a] at hP hD
            have es_w63a : w63a[0]? = some ((a 0, .inr (9, [.ref (a 1), .ref (a 2), .ref (a 6), .ref (a 13), .ref (a 20), .int (zI (σ 0 5)), .int (zI (σ 0 6)), .int (zI (σ 0 7)), .int (zI (σ 0 8))])) : Nat × va_E) := by rw [ew63a]; exact js_ne ev_w49b es_w49b (by intro h9; cases h9)
            have ea_w63a : w63a[2]? = some ((a 2, .inl (cy 0, 3, .inr (.inr (.inr (.inr (fun i => some (a (3 + i)))))))) : Nat × va_E) := by rw [ew63a]; exact js_ne ev_w49b ea_w49b (by simp)
            have ex_w63a : w63a[62]? = some ((xq, .inr (1, [.ref (vq), .int (zI (0)), .int (zI (0)), .int (zI ((jL σ i) + 1))])) : Nat × va_E) := by rw [ew63a]; exact js_ne ev_w49b ex_w49b (by intro h9; cases h9)
            have ev_w63a : w63a[63]? = some ((vq, .inl (J.1, 16, .inl u63)) : Nat × va_E) := by rw [ew63a]; exact js_eq ev_w49b
            have ec_w63a : w63a[(3 + i)]? = some ((a (3 + i), .inr (2, [.int (zI (σ (3 + i) 0)), .int (zI (σ (3 + i) 1)), .int (zI (σ (3 + i) 2)), .int (zI (σ (3 + i) 3)), .int (zI (σ (3 + i) 4)), .int (zI (σ (3 + i) 5)), .int (zI (σ (3 + i) 6)), .int (zI (σ (3 + i) 7)), .int (zI (σ (3 + i) 8)), .int (zI (σ (3 + i) 9)), .int (zI (σ (3 + i) 10)), .int (zI (σ (3 + i) 11))])) : Nat × va_E) := by rw [ew63a]; exact js_ne ev_w49b ec_w49b (by intro h9; cases h9)
            obtain ⟨w63b, ew63b⟩ : ∃ z9 : va_W, z9 = w63a.set 62 ((xq, .inr (1, [.ref (vq), .int (zI (0)), .int (zI (0)), .int (zI (((jL σ i) + 1) + (if (σ (3 + i) 3) < 10 then 1 else 2)))])) : Nat × va_E) := ⟨_, rfl⟩
            rw [← ew63b] at hP hD
            have es_w63b : w63b[0]? = some ((a 0, .inr (9, [.ref (a 1), .ref (a 2), .ref (a 6), .ref (a 13), .ref (a 20), .int (zI (σ 0 5)), .int (zI (σ 0 6)), .int (zI (σ 0 7)), .int (zI (σ 0 8))])) : Nat × va_E) := by rw [ew63b]; exact js_ne ex_w63a es_w63a (by intro h9; cases h9)
            have ea_w63b : w63b[2]? = some ((a 2, .inl (cy 0, 3, .inr (.inr (.inr (.inr (fun i => some (a (3 + i)))))))) : Nat × va_E) := by rw [ew63b]; exact js_ne ex_w63a ea_w63a (by intro h9; cases h9)
            have ex_w63b : w63b[62]? = some ((xq, .inr (1, [.ref (vq), .int (zI (0)), .int (zI (0)), .int (zI (((jL σ i) + 1) + (if (σ (3 + i) 3) < 10 then 1 else 2)))])) : Nat × va_E) := by rw [ew63b]; exact js_eq ex_w63a
            have ev_w63b : w63b[63]? = some ((vq, .inl (J.1, 16, .inl u63)) : Nat × va_E) := by rw [ew63b]; exact js_ne ex_w63a ev_w63a (by intro h9; cases h9)
            have ec_w63b : w63b[(3 + i)]? = some ((a (3 + i), .inr (2, [.int (zI (σ (3 + i) 0)), .int (zI (σ (3 + i) 1)), .int (zI (σ (3 + i) 2)), .int (zI (σ (3 + i) 3)), .int (zI (σ (3 + i) 4)), .int (zI (σ (3 + i) 5)), .int (zI (σ (3 + i) 6)), .int (zI (σ (3 + i) 7)), .int (zI (σ (3 + i) 8)), .int (zI (σ (3 + i) 9)), .int (zI (σ (3 + i) 10)), .int (zI (σ (3 + i) 11))])) : Nat × va_E) := by rw [ew63b]; exact js_ne ex_w63a ec_w63a (by intro h9; cases h9)
            rw [hx9]
            refine lv_pop hx hb dX7_jibs_66 rfl ?_
            refine lv_iinc (v := zI ((i : Int) + 1)) (lv' := [(2, .int (zI ((i : Int) + 1))), (0, .ref (a 0)), (1, .ref (xq))]) hx hb dX7_jibs_67 hl (k := 2) rfl (zI_add _ _) (by decide) rfl (fun ls hl => ?_)
            refine lv_goto (tgt := 10) hx hb dX7_jibs_70 (by decide) ?_
            have hn9 : jL σ (i + 1) = ((jL σ i) + 1) + (if (σ (3 + i) 3) < 10 then 1 else 2) := by rw [jL_s]; first | (rw [if_pos (by omega)]; done) | (rw [if_neg (by omega)]; done) | (rw [if_pos (by omega)]; omega) | (rw [if_neg (by omega)]; omega)
            have eW : w63b = wld cy a q σ ++ [((xq, .inr (1, [.ref (vq), .int (zI 0), .int (zI 0), .int (zI (jL σ (i + 1)))])) : Nat × va_E), ((vq, .inl (J.1, 16, .inl u63)) : Nat × va_E)] := by
              rw [hn9, ew63b, ew63a, ew49b, ew49a, ewl]
              simp only [js62, js63]
            rw [eW] at hP hD
            exact ihd (i + 1) u63 H locs ls (by omega) (by omega) hw63 hP hD hS (by have h9 := lv_sub hl [1, 2, 0] rfl; exact h9)
          · skip
            refine lv_bipush (v := zI 76) hx hb dX7_jibs_42 (by decide +kernel) ?_
            refine lv_goto (tgt := 49) hx hb dX7_jibs_44 (by decide) ?_
            refine va_callr (va_runV (As := [.int (zI (76))]) (rest := []) ⟨hx, hb, hml, hown, hts⟩ (c_J4_append_cf468 l D J A H.size (fun y h => hA y (Nat.le_trans hS.1 h)) wl xq vq (jL σ i) f 76 62 ex 63 ev (by omega) (by omega) hF) (cwV 1 hts gX7_jibs_J4_append_cf468 rfl rfl rfl (by decide +kernel) ⟨Nat.le_of_ble_eq_true rfl, Nat.le_of_ble_eq_true rfl⟩) ⟨jW_blind, va_recv hK hP (ci := 1) (q0 := 62) rfl ex, fun U hU hW => ⟨rfl, by rw [hU], jW_mk hP hD hZ hS hU hW⟩⟩ rfl rfl hl.1 rfl (lv_room (Nat.le_of_ble_eq_true rfl)) dX7_jibs_49 ⟨(show 2 + 0 ≤ 4 by omega), (show 20 + 0 ≤ 40 by omega)⟩) hS (fun _ _ h => h) (fun _ h => h) (fun u9 ra9 t9 H locs ht hvm hw hB hz hk hS1 => ?_)
            have eu9 := True.intro
            obtain ⟨u49, eu49⟩ : ∃ z, z = u9 := ⟨u9, rfl⟩
            rw [← eu49] at hB
            try rw [← eu49] at hw
            obtain ⟨hx9, hP9, hD9⟩ := hB
            rw [ht] at hP9
            have hP := hP9
            have hD := hD9
            have hS := hS1
            have hw49 := hw
            try dsimp only at hw49 hP hD
            obtain ⟨w49a, ew49a⟩ : ∃ z9 : va_W, z9 = wl.set 62 ((xq, .inr (1, [.ref (vq), .int (zI (0)), .int (zI (0)), .int (zI ((jL σ i) + 1))])) : Nat × va_E) := ⟨_, rfl⟩
            rw [← ew49a] at hP hD
            have es_w49a : w49a[0]? = some ((a 0, .inr (9, [.ref (a 1), .ref (a 2), .ref (a 6), .ref (a 13), .ref (a 20), .int (zI (σ 0 5)), .int (zI (σ 0 6)), .int (zI (σ 0 7)), .int (zI (σ 0 8))])) : Nat × va_E) := by rw [ew49a]; exact js_ne ex es (by intro h9; cases h9)
            have ea_w49a : w49a[2]? = some ((a 2, .inl (cy 0, 3, .inr (.inr (.inr (.inr (fun i => some (a (3 + i)))))))) : Nat × va_E) := by rw [ew49a]; exact js_ne ex ea (by intro h9; cases h9)
            have ex_w49a : w49a[62]? = some ((xq, .inr (1, [.ref (vq), .int (zI (0)), .int (zI (0)), .int (zI ((jL σ i) + 1))])) : Nat × va_E) := by rw [ew49a]; exact js_eq ex
            have ev_w49a : w49a[63]? = some ((vq, .inl (J.1, 16, .inl f)) : Nat × va_E) := by rw [ew49a]; exact js_ne ex ev (by intro h9; cases h9)
            have ec_w49a : w49a[(3 + i)]? = some ((a (3 + i), .inr (2, [.int (zI (σ (3 + i) 0)), .int (zI (σ (3 + i) 1)), .int (zI (σ (3 + i) 2)), .int (zI (σ (3 + i) 3)), .int (zI (σ (3 + i) 4)), .int (zI (σ (3 + i) 5)), .int (zI (σ (3 + i) 6)), .int (zI (σ (3 + i) 7)), .int (zI (σ (3 + i) 8)), .int (zI (σ (3 + i) 9)), .int (zI (σ (3 + i) 10)), .int (zI (σ (3 + i) 11))])) : Nat × va_E) := by rw [ew49a]; exact js_ne ex ec (by intro h9; cases h9)
            obtain ⟨w49b, ew49b⟩ : ∃ z9 : va_W, z9 = w49a.set 63 ((vq, .inl (J.1, 16, .inl u49)) : Nat × va_E) := ⟨_, rfl⟩
            rw [← ew49b] at hP hD
            have es_w49b : w49b[0]? = some ((a 0, .inr (9, [.ref (a 1), .ref (a 2), .ref (a 6), .ref (a 13), .ref (a 20), .int (zI (σ 0 5)), .int (zI (σ 0 6)), .int (zI (σ 0 7)), .int (zI (σ 0 8))])) : Nat × va_E) := by rw [ew49b]; exact js_ne ev_w49a es_w49a (by intro h9; cases h9)
            have ea_w49b : w49b[2]? = some ((a 2, .inl (cy 0, 3, .inr (.inr (.inr (.inr (fun i => some (a (3 + i)))))))) : Nat × va_E) := by rw [ew49b]; exact js_ne ev_w49a ea_w49a (by simp)
            have ex_w49b : w49b[62]? = some ((xq, .inr (1, [.ref (vq), .int (zI (0)), .int (zI (0)), .int (zI ((jL σ i) + 1))])) : Nat × va_E) := by rw [ew49b]; exact js_ne ev_w49a ex_w49a (by intro h9; cases h9)
            have ev_w49b : w49b[63]? = some ((vq, .inl (J.1, 16, .inl u49)) : Nat × va_E) := by rw [ew49b]; exact js_eq ev_w49a
            have ec_w49b : w49b[(3 + i)]? = some ((a (3 + i), .inr (2, [.int (zI (σ (3 + i) 0)), .int (zI (σ (3 + i) 1)), .int (zI (σ (3 + i) 2)), .int (zI (σ (3 + i) 3)), .int (zI (σ (3 + i) 4)), .int (zI (σ (3 + i) 5)), .int (zI (σ (3 + i) 6)), .int (zI (σ (3 + i) 7)), .int (zI (σ (3 + i) 8)), .int (zI (σ (3 + i) 9)), .int (zI (σ (3 + i) 10)), .int (zI (σ (3 + i) 11))])) : Nat × va_E) := by rw [ew49b]; exact js_ne ev_w49a ec_w49a (by intro h9; cases h9)
            rw [hx9]
            refine lv_pop hx hb dX7_jibs_52 rfl ?_
            refine lv_aload_n hx hb dX7_jibs_53 rfl (lv_at hl 1 rfl) ?_
            refine lv_aload_n hx hb dX7_jibs_54 rfl (lv_at hl 0 rfl) ?_
            refine va_get (D := D) (ci := 9) (v := .ref (a 2)) (C := RX7) (T := TX7) (N := 9) hx hb hts inX7 hown hK hP 0 es_w49b rfl 1 (by decide) k18 (fun _ h9 => h9) rfl dX7_jibs_55 ?_
            refine lv_iload_n hx hb dX7_jibs_58 rfl (lv_at hl 2 rfl) ?_
            refine z_aald (i := i) hx hb hKw hP 2 0 ea_w49b rfl rfl hi3 (by omega) dX7_jibs_59 ?_
            refine va_get (D := D) (ci := 2) (v := .int (zI (σ (3 + i) 3))) (C := RX0) (T := TX0) (N := 12) hx hb hts inX0 hown hK hP (3 + i) ec_w49b rfl 3 (by decide) k207 (fun _ h9 => h9) rfl dX7_jibs_60 ?_
            refine va_callr (va_runV (As := [.int (zI (σ (3 + i) 3))]) (rest := []) ⟨hx, hb, hml, hown, hts⟩ (c_J4_append_bf812 l D J A H.size (fun y h => hA y (Nat.le_trans hS.1 h)) w49b xq vq ((jL σ i) + 1) u49 (σ (3 + i) 3) 62 ex_w49b 63 ev_w49b (by omega) (by omega) hw49) (cwV 1 hts gX7_jibs_J4_append_bf812 rfl rfl rfl (by decide +kernel) ⟨Nat.le_of_ble_eq_true rfl, Nat.le_of_ble_eq_true rfl⟩) ⟨jW_blind, va_recv hK hP (ci := 1) (q0 := 62) rfl ex_w49b, fun U hU hW => ⟨rfl, by rw [hU], jW_mk hP hD hZ hS hU hW⟩⟩ rfl rfl hl.1 rfl (lv_room (Nat.le_of_ble_eq_true rfl)) dX7_jibs_63 ⟨(show 2 + 0 + 0 ≤ 4 by omega), (show 20 + 0 + 0 ≤ 40 by omega)⟩) hS (fun _ _ h => h) (fun _ h => h) (fun u9 ra9 t9 H locs ht hvm hw hB hz hk hS1 => ?_)
            have eu9 := True.intro
            obtain ⟨u63, eu63⟩ : ∃ z, z = u9 := ⟨u9, rfl⟩
            rw [← eu63] at hB
            try rw [← eu63] at hw
            obtain ⟨hx9, hP9, hD9⟩ := hB
            rw [ht] at hP9
            have hP := hP9
            have hD := hD9
            have hS := hS1
            have hw63 := hw
            try dsimp only at hw63 hP hD
            obtain ⟨w63a, ew63a⟩ : ∃ z9 : va_W, z9 = w49b.set 63 ((vq, .inl (J.1, 16, .inl u63)) : Nat × va_E) := ⟨_, rfl⟩
            rw [← ew63a] at hP hD
            have es_w63a : w63a[0]? = some ((a 0, .inr (9, [.ref (a 1), .ref (a 2), .ref (a 6), .ref (a 13), .ref (a 20), .int (zI (σ 0 5)), .int (zI (σ 0 6)), .int (zI (σ 0 7)), .int (zI (σ 0 8))])) : Nat × va_E) := by rw [ew63a]; exact js_ne ev_w49b es_w49b (by intro h9; cases h9)
            have ea_w63a : w63a[2]? = some ((a 2, .inl (cy 0, 3, .inr (.inr (.inr (.inr (fun i => some (a (3 + i)))))))) : Nat × va_E) := by rw [ew63a]; exact js_ne ev_w49b ea_w49b (by simp)
            have ex_w63a : w63a[62]? = some ((xq, .inr (1, [.ref (vq), .int (zI (0)), .int (zI (0)), .int (zI ((jL σ i) + 1))])) : Nat × va_E) := by rw [ew63a]; exact js_ne ev_w49b ex_w49b (by intro h9; cases h9)
            have ev_w63a : w63a[63]? = some ((vq, .inl (J.1, 16, .inl u63)) : Nat × va_E) := by rw [ew63a]; exact js_eq ev_w49b
            have ec_w63a : w63a[(3 + i)]? = some ((a (3 + i), .inr (2, [.int (zI (σ (3 + i) 0)), .int (zI (σ (3 + i) 1)), .int (zI (σ (3 + i) 2)), .int (zI (σ (3 + i) 3)), .int (zI (σ (3 + i) 4)), .int (zI (σ (3 + i) 5)), .int (zI (σ (3 + i) 6)), .int (zI (σ (3 + i) 7)), .int (zI (σ (3 + i) 8)), .int (zI (σ (3 + i) 9)), .int (zI (σ (3 + i) 10)), .int (zI (σ (3 + i) 11))])) : Nat × va_E) := by rw [ew63a]; exact js_ne ev_w49b ec_w49b (by intro h9; cases h9)
            obtain ⟨w63b, ew63b⟩ : ∃ z9 : va_W, z9 = w63a.set 62 ((xq, .inr (1, [.ref (vq), .int (zI (0)), .int (zI (0)), .int (zI (((jL σ i) + 1) + (if (σ (3 + i) 3) < 10 then 1 else 2)))])) : Nat × va_E) := ⟨_, rfl⟩
            rw [← ew63b] at hP hD
            have es_w63b : w63b[0]? = some ((a 0, .inr (9, [.ref (a 1), .ref (a 2), .ref (a 6), .ref (a 13), .ref (a 20), .int (zI (σ 0 5)), .int (zI (σ 0 6)), .int (zI (σ 0 7)), .int (zI (σ 0 8))])) : Nat × va_E) := by rw [ew63b]; exact js_ne ex_w63a es_w63a (by intro h9; cases h9)
            have ea_w63b : w63b[2]? = some ((a 2, .inl (cy 0, 3, .inr (.inr (.inr (.inr (fun i => some (a (3 + i)))))))) : Nat × va_E) := by rw [ew63b]; exact js_ne ex_w63a ea_w63a (by intro h9; cases h9)
            have ex_w63b : w63b[62]? = some ((xq, .inr (1, [.ref (vq), .int (zI (0)), .int (zI (0)), .int (zI (((jL σ i) + 1) + (if (σ (3 + i) 3) < 10 then 1 else 2)))])) : Nat × va_E) := by rw [ew63b]; exact js_eq ex_w63a
            have ev_w63b : w63b[63]? = some ((vq, .inl (J.1, 16, .inl u63)) : Nat × va_E) := by rw [ew63b]; exact js_ne ex_w63a ev_w63a (by intro h9; cases h9)
            have ec_w63b : w63b[(3 + i)]? = some ((a (3 + i), .inr (2, [.int (zI (σ (3 + i) 0)), .int (zI (σ (3 + i) 1)), .int (zI (σ (3 + i) 2)), .int (zI (σ (3 + i) 3)), .int (zI (σ (3 + i) 4)), .int (zI (σ (3 + i) 5)), .int (zI (σ (3 + i) 6)), .int (zI (σ (3 + i) 7)), .int (zI (σ (3 + i) 8)), .int (zI (σ (3 + i) 9)), .int (zI (σ (3 + i) 10)), .int (zI (σ (3 + i) 11))])) : Nat × va_E) := by rw [ew63b]; exact js_ne ex_w63a ec_w63a (by intro h9; cases h9)
            rw [hx9]
            refine lv_pop hx hb dX7_jibs_66 rfl ?_
            refine lv_iinc (v := zI ((i : Int) + 1)) (lv' := [(2, .int (zI ((i : Int) + 1))), (0, .ref (a 0)), (1, .ref (xq))]) hx hb dX7_jibs_67 hl (k := 2) rfl (zI_add _ _) (by decide) rfl (fun ls hl => ?_)
            refine lv_goto (tgt := 10) hx hb dX7_jibs_70 (by decide) ?_
            have hn9 : jL σ (i + 1) = ((jL σ i) + 1) + (if (σ (3 + i) 3) < 10 then 1 else 2) := by rw [jL_s]; first | (rw [if_pos (by omega)]; done) | (rw [if_neg (by omega)]; done) | (rw [if_pos (by omega)]; omega) | (rw [if_neg (by omega)]; omega)
            have eW : w63b = wld cy a q σ ++ [((xq, .inr (1, [.ref (vq), .int (zI 0), .int (zI 0), .int (zI (jL σ (i + 1)))])) : Nat × va_E), ((vq, .inl (J.1, 16, .inl u63)) : Nat × va_E)] := by
              rw [hn9, ew63b, ew63a, ew49b, ew49a, ewl]
              simp only [js62, js63]
            rw [eW] at hP hD
            exact ihd (i + 1) u63 H locs ls (by omega) (by omega) hw63 hP hD hS (by have h9 := lv_sub hl [1, 2, 0] rfl; exact h9)
        · skip
          refine lv_aload_n hx hb dX7_jibs_22 rfl (lv_at hl 1 rfl) ?_
          refine lv_bipush (v := zI 32) hx hb dX7_jibs_23 (by decide +kernel) ?_
          refine va_callr (va_runV (As := [.int (zI (32))]) (rest := []) ⟨hx, hb, hml, hown, hts⟩ (c_J4_append_cf468 l D J A H.size (fun y h => hA y (Nat.le_trans hS.1 h)) wl xq vq (jL σ i) f 32 62 ex 63 ev (by omega) (by omega) hF) (cwV 1 hts gX7_jibs_J4_append_cf468 rfl rfl rfl (by decide +kernel) ⟨Nat.le_of_ble_eq_true rfl, Nat.le_of_ble_eq_true rfl⟩) ⟨jW_blind, va_recv hK hP (ci := 1) (q0 := 62) rfl ex, fun U hU hW => ⟨rfl, by rw [hU], jW_mk hP hD hZ hS hU hW⟩⟩ rfl rfl hl.1 rfl (lv_room (Nat.le_of_ble_eq_true rfl)) dX7_jibs_25 ⟨(show 2 + 0 ≤ 4 by omega), (show 20 + 0 ≤ 40 by omega)⟩) hS (fun _ _ h => h) (fun _ h => h) (fun u9 ra9 t9 H locs ht hvm hw hB hz hk hS1 => ?_)
          have eu9 := True.intro
          obtain ⟨u25, eu25⟩ : ∃ z, z = u9 := ⟨u9, rfl⟩
          rw [← eu25] at hB
          try rw [← eu25] at hw
          obtain ⟨hx9, hP9, hD9⟩ := hB
          rw [ht] at hP9
          have hP := hP9
          have hD := hD9
          have hS := hS1
          have hw25 := hw
          try dsimp only at hw25 hP hD
          obtain ⟨w25a, ew25a⟩ : ∃ z9 : va_W, z9 = wl.set 62 ((xq, .inr (1, [.ref (vq), .int (zI (0)), .int (zI (0)), .int (zI ((jL σ i) + 1))])) : Nat × va_E) := ⟨_, rfl⟩
          rw [← ew25a] at hP hD
          have es_w25a : w25a[0]? = some ((a 0, .inr (9, [.ref (a 1), .ref (a 2), .ref (a 6), .ref (a 13), .ref (a 20), .int (zI (σ 0 5)), .int (zI (σ 0 6)), .int (zI (σ 0 7)), .int (zI (σ 0 8))])) : Nat × va_E) := by rw [ew25a]; exact js_ne ex es (by intro h9; cases h9)
          have ea_w25a : w25a[2]? = some ((a 2, .inl (cy 0, 3, .inr (.inr (.inr (.inr (fun i => some (a (3 + i)))))))) : Nat × va_E) := by rw [ew25a]; exact js_ne ex ea (by intro h9; cases h9)
          have ex_w25a : w25a[62]? = some ((xq, .inr (1, [.ref (vq), .int (zI (0)), .int (zI (0)), .int (zI ((jL σ i) + 1))])) : Nat × va_E) := by rw [ew25a]; exact js_eq ex
          have ev_w25a : w25a[63]? = some ((vq, .inl (J.1, 16, .inl f)) : Nat × va_E) := by rw [ew25a]; exact js_ne ex ev (by intro h9; cases h9)
          have ec_w25a : w25a[(3 + i)]? = some ((a (3 + i), .inr (2, [.int (zI (σ (3 + i) 0)), .int (zI (σ (3 + i) 1)), .int (zI (σ (3 + i) 2)), .int (zI (σ (3 + i) 3)), .int (zI (σ (3 + i) 4)), .int (zI (σ (3 + i) 5)), .int (zI (σ (3 + i) 6)), .int (zI (σ (3 + i) 7)), .int (zI (σ (3 + i) 8)), .int (zI (σ (3 + i) 9)), .int (zI (σ (3 + i) 10)), .int (zI (σ (3 + i) 11))])) : Nat × va_E) := by rw [ew25a]; exact js_ne ex ec (by intro h9; cases h9)
          obtain ⟨w25b, ew25b⟩ : ∃ z9 : va_W, z9 = w25a.set 63 ((vq, .inl (J.1, 16, .inl u25)) : Nat × va_E) := ⟨_, rfl⟩
          rw [← ew25b] at hP hD
          have es_w25b : w25b[0]? = some ((a 0, .inr (9, [.ref (a 1), .ref (a 2), .ref (a 6), .ref (a 13), .ref (a 20), .int (zI (σ 0 5)), .int (zI (σ 0 6)), .int (zI (σ 0 7)), .int (zI (σ 0 8))])) : Nat × va_E) := by rw [ew25b]; exact js_ne ev_w25a es_w25a (by intro h9; cases h9)
          have ea_w25b : w25b[2]? = some ((a 2, .inl (cy 0, 3, .inr (.inr (.inr (.inr (fun i => some (a (3 + i)))))))) : Nat × va_E) := by rw [ew25b]; exact js_ne ev_w25a ea_w25a (by simp)
          have ex_w25b : w25b[62]? = some ((xq, .inr (1, [.ref (vq), .int (zI (0)), .int (zI (0)), .int (zI ((jL σ i) + 1))])) : Nat × va_E) := by rw [ew25b]; exact js_ne ev_w25a ex_w25a (by intro h9; cases h9)
          have ev_w25b : w25b[63]? = some ((vq, .inl (J.1, 16, .inl u25)) : Nat × va_E) := by rw [ew25b]; exact js_eq ev_w25a
          have ec_w25b : w25b[(3 + i)]? = some ((a (3 + i), .inr (2, [.int (zI (σ (3 + i) 0)), .int (zI (σ (3 + i) 1)), .int (zI (σ (3 + i) 2)), .int (zI (σ (3 + i) 3)), .int (zI (σ (3 + i) 4)), .int (zI (σ (3 + i) 5)), .int (zI (σ (3 + i) 6)), .int (zI (σ (3 + i) 7)), .int (zI (σ (3 + i) 8)), .int (zI (σ (3 + i) 9)), .int (zI (σ (3 + i) 10)), .int (zI (σ (3 + i) 11))])) : Nat × va_E) := by rw [ew25b]; exact js_ne ev_w25a ec_w25a (by intro h9; cases h9)
          rw [hx9]
          refine lv_pop hx hb dX7_jibs_28 rfl ?_
          refine lv_aload_n hx hb dX7_jibs_29 rfl (lv_at hl 1 rfl) ?_
          refine lv_aload_n hx hb dX7_jibs_30 rfl (lv_at hl 0 rfl) ?_
          refine va_get (D := D) (ci := 9) (v := .ref (a 2)) (C := RX7) (T := TX7) (N := 9) hx hb hts inX7 hown hK hP 0 es_w25b rfl 1 (by decide) k18 (fun _ h9 => h9) rfl dX7_jibs_31 ?_
          refine lv_iload_n hx hb dX7_jibs_34 rfl (lv_at hl 2 rfl) ?_
          refine z_aald (i := i) hx hb hKw hP 2 0 ea_w25b rfl rfl hi3 (by omega) dX7_jibs_35 ?_
          refine va_get (D := D) (ci := 2) (v := .int (zI (σ (3 + i) 5))) (C := RX0) (T := TX0) (N := 12) hx hb hts inX0 hown hK hP (3 + i) ec_w25b rfl 5 (by decide) k79 (fun _ h9 => h9) rfl dX7_jibs_36 ?_
          refine z_if_eq (tgt := 47) hx hb dX7_jibs_39 (by decide) (by omega) (fun cd39 => ?_) (fun cd39 => ?_)
          · skip
            refine lv_bipush (v := zI 70) hx hb dX7_jibs_47 (by decide +kernel) ?_
            refine va_callr (va_runV (As := [.int (zI (70))]) (rest := []) ⟨hx, hb, hml, hown, hts⟩ (c_J4_append_cf468 l D J A H.size (fun y h => hA y (Nat.le_trans hS.1 h)) w25b xq vq ((jL σ i) + 1) u25 70 62 ex_w25b 63 ev_w25b (by omega) (by omega) hw25) (cwV 1 hts gX7_jibs_J4_append_cf468 rfl rfl rfl (by decide +kernel) ⟨Nat.le_of_ble_eq_true rfl, Nat.le_of_ble_eq_true rfl⟩) ⟨jW_blind, va_recv hK hP (ci := 1) (q0 := 62) rfl ex_w25b, fun U hU hW => ⟨rfl, by rw [hU], jW_mk hP hD hZ hS hU hW⟩⟩ rfl rfl hl.1 rfl (lv_room (Nat.le_of_ble_eq_true rfl)) dX7_jibs_49 ⟨(show 2 + 0 + 0 ≤ 4 by omega), (show 20 + 0 + 0 ≤ 40 by omega)⟩) hS (fun _ _ h => h) (fun _ h => h) (fun u9 ra9 t9 H locs ht hvm hw hB hz hk hS1 => ?_)
            have eu9 := True.intro
            obtain ⟨u49, eu49⟩ : ∃ z, z = u9 := ⟨u9, rfl⟩
            rw [← eu49] at hB
            try rw [← eu49] at hw
            obtain ⟨hx9, hP9, hD9⟩ := hB
            rw [ht] at hP9
            have hP := hP9
            have hD := hD9
            have hS := hS1
            have hw49 := hw
            try dsimp only at hw49 hP hD
            obtain ⟨w49a, ew49a⟩ : ∃ z9 : va_W, z9 = w25b.set 62 ((xq, .inr (1, [.ref (vq), .int (zI (0)), .int (zI (0)), .int (zI (((jL σ i) + 1) + 1))])) : Nat × va_E) := ⟨_, rfl⟩
            rw [← ew49a] at hP hD
            have es_w49a : w49a[0]? = some ((a 0, .inr (9, [.ref (a 1), .ref (a 2), .ref (a 6), .ref (a 13), .ref (a 20), .int (zI (σ 0 5)), .int (zI (σ 0 6)), .int (zI (σ 0 7)), .int (zI (σ 0 8))])) : Nat × va_E) := by rw [ew49a]; exact js_ne ex_w25b es_w25b (by intro h9; cases h9)
            have ea_w49a : w49a[2]? = some ((a 2, .inl (cy 0, 3, .inr (.inr (.inr (.inr (fun i => some (a (3 + i)))))))) : Nat × va_E) := by rw [ew49a]; exact js_ne ex_w25b ea_w25b (by intro h9; cases h9)
            have ex_w49a : w49a[62]? = some ((xq, .inr (1, [.ref (vq), .int (zI (0)), .int (zI (0)), .int (zI (((jL σ i) + 1) + 1))])) : Nat × va_E) := by rw [ew49a]; exact js_eq ex_w25b
            have ev_w49a : w49a[63]? = some ((vq, .inl (J.1, 16, .inl u25)) : Nat × va_E) := by rw [ew49a]; exact js_ne ex_w25b ev_w25b (by intro h9; cases h9)
            have ec_w49a : w49a[(3 + i)]? = some ((a (3 + i), .inr (2, [.int (zI (σ (3 + i) 0)), .int (zI (σ (3 + i) 1)), .int (zI (σ (3 + i) 2)), .int (zI (σ (3 + i) 3)), .int (zI (σ (3 + i) 4)), .int (zI (σ (3 + i) 5)), .int (zI (σ (3 + i) 6)), .int (zI (σ (3 + i) 7)), .int (zI (σ (3 + i) 8)), .int (zI (σ (3 + i) 9)), .int (zI (σ (3 + i) 10)), .int (zI (σ (3 + i) 11))])) : Nat × va_E) := by rw [ew49a]; exact js_ne ex_w25b ec_w25b (by intro h9; cases h9)
            obtain ⟨w49b, ew49b⟩ : ∃ z9 : va_W, z9 = w49a.set 63 ((vq, .inl (J.1, 16, .inl u49)) : Nat × va_E) := ⟨_, rfl⟩
            rw [← ew49b] at hP hD
            have es_w49b : w49b[0]? = some ((a 0, .inr (9, [.ref (a 1), .ref (a 2), .ref (a 6), .ref (a 13), .ref (a 20), .int (zI (σ 0 5)), .int (zI (σ 0 6)), .int (zI (σ 0 7)), .int (zI (σ 0 8))])) : Nat × va_E) := by rw [ew49b]; exact js_ne ev_w49a es_w49a (by intro h9; cases h9)
            have ea_w49b : w49b[2]? = some ((a 2, .inl (cy 0, 3, .inr (.inr (.inr (.inr (fun i => some (a (3 + i)))))))) : Nat × va_E) := by rw [ew49b]; exact js_ne ev_w49a ea_w49a (by simp)
            have ex_w49b : w49b[62]? = some ((xq, .inr (1, [.ref (vq), .int (zI (0)), .int (zI (0)), .int (zI (((jL σ i) + 1) + 1))])) : Nat × va_E) := by rw [ew49b]; exact js_ne ev_w49a ex_w49a (by intro h9; cases h9)
            have ev_w49b : w49b[63]? = some ((vq, .inl (J.1, 16, .inl u49)) : Nat × va_E) := by rw [ew49b]; exact js_eq ev_w49a
            have ec_w49b : w49b[(3 + i)]? = some ((a (3 + i), .inr (2, [.int (zI (σ (3 + i) 0)), .int (zI (σ (3 + i) 1)), .int (zI (σ (3 + i) 2)), .int (zI (σ (3 + i) 3)), .int (zI (σ (3 + i) 4)), .int (zI (σ (3 + i) 5)), .int (zI (σ (3 + i) 6)), .int (zI (σ (3 + i) 7)), .int (zI (σ (3 + i) 8)), .int (zI (σ (3 + i) 9)), .int (zI (σ (3 + i) 10)), .int (zI (σ (3 + i) 11))])) : Nat × va_E) := by rw [ew49b]; exact js_ne ev_w49a ec_w49a (by intro h9; cases h9)
            rw [hx9]
            refine lv_pop hx hb dX7_jibs_52 rfl ?_
            refine lv_aload_n hx hb dX7_jibs_53 rfl (lv_at hl 1 rfl) ?_
            refine lv_aload_n hx hb dX7_jibs_54 rfl (lv_at hl 0 rfl) ?_
            refine va_get (D := D) (ci := 9) (v := .ref (a 2)) (C := RX7) (T := TX7) (N := 9) hx hb hts inX7 hown hK hP 0 es_w49b rfl 1 (by decide) k18 (fun _ h9 => h9) rfl dX7_jibs_55 ?_
            refine lv_iload_n hx hb dX7_jibs_58 rfl (lv_at hl 2 rfl) ?_
            refine z_aald (i := i) hx hb hKw hP 2 0 ea_w49b rfl rfl hi3 (by omega) dX7_jibs_59 ?_
            refine va_get (D := D) (ci := 2) (v := .int (zI (σ (3 + i) 3))) (C := RX0) (T := TX0) (N := 12) hx hb hts inX0 hown hK hP (3 + i) ec_w49b rfl 3 (by decide) k207 (fun _ h9 => h9) rfl dX7_jibs_60 ?_
            refine va_callr (va_runV (As := [.int (zI (σ (3 + i) 3))]) (rest := []) ⟨hx, hb, hml, hown, hts⟩ (c_J4_append_bf812 l D J A H.size (fun y h => hA y (Nat.le_trans hS.1 h)) w49b xq vq (((jL σ i) + 1) + 1) u49 (σ (3 + i) 3) 62 ex_w49b 63 ev_w49b (by omega) (by omega) hw49) (cwV 1 hts gX7_jibs_J4_append_bf812 rfl rfl rfl (by decide +kernel) ⟨Nat.le_of_ble_eq_true rfl, Nat.le_of_ble_eq_true rfl⟩) ⟨jW_blind, va_recv hK hP (ci := 1) (q0 := 62) rfl ex_w49b, fun U hU hW => ⟨rfl, by rw [hU], jW_mk hP hD hZ hS hU hW⟩⟩ rfl rfl hl.1 rfl (lv_room (Nat.le_of_ble_eq_true rfl)) dX7_jibs_63 ⟨(show 2 + 0 + 0 + 0 ≤ 4 by omega), (show 20 + 0 + 0 + 0 ≤ 40 by omega)⟩) hS (fun _ _ h => h) (fun _ h => h) (fun u9 ra9 t9 H locs ht hvm hw hB hz hk hS1 => ?_)
            have eu9 := True.intro
            obtain ⟨u63, eu63⟩ : ∃ z, z = u9 := ⟨u9, rfl⟩
            rw [← eu63] at hB
            try rw [← eu63] at hw
            obtain ⟨hx9, hP9, hD9⟩ := hB
            rw [ht] at hP9
            have hP := hP9
            have hD := hD9
            have hS := hS1
            have hw63 := hw
            try dsimp only at hw63 hP hD
            obtain ⟨w63a, ew63a⟩ : ∃ z9 : va_W, z9 = w49b.set 63 ((vq, .inl (J.1, 16, .inl u63)) : Nat × va_E) := ⟨_, rfl⟩
            rw [← ew63a] at hP hD
            have es_w63a : w63a[0]? = some ((a 0, .inr (9, [.ref (a 1), .ref (a 2), .ref (a 6), .ref (a 13), .ref (a 20), .int (zI (σ 0 5)), .int (zI (σ 0 6)), .int (zI (σ 0 7)), .int (zI (σ 0 8))])) : Nat × va_E) := by rw [ew63a]; exact js_ne ev_w49b es_w49b (by intro h9; cases h9)
            have ea_w63a : w63a[2]? = some ((a 2, .inl (cy 0, 3, .inr (.inr (.inr (.inr (fun i => some (a (3 + i)))))))) : Nat × va_E) := by rw [ew63a]; exact js_ne ev_w49b ea_w49b (by simp)
            have ex_w63a : w63a[62]? = some ((xq, .inr (1, [.ref (vq), .int (zI (0)), .int (zI (0)), .int (zI (((jL σ i) + 1) + 1))])) : Nat × va_E) := by rw [ew63a]; exact js_ne ev_w49b ex_w49b (by intro h9; cases h9)
            have ev_w63a : w63a[63]? = some ((vq, .inl (J.1, 16, .inl u63)) : Nat × va_E) := by rw [ew63a]; exact js_eq ev_w49b
            have ec_w63a : w63a[(3 + i)]? = some ((a (3 + i), .inr (2, [.int (zI (σ (3 + i) 0)), .int (zI (σ (3 + i) 1)), .int (zI (σ (3 + i) 2)), .int (zI (σ (3 + i) 3)), .int (zI (σ (3 + i) 4)), .int (zI (σ (3 + i) 5)), .int (zI (σ (3 + i) 6)), .int (zI (σ (3 + i) 7)), .int (zI (σ (3 + i) 8)), .int (zI (σ (3 + i) 9)), .int (zI (σ (3 + i) 10)), .int (zI (σ (3 + i) 11))])) : Nat × va_E) := by rw [ew63a]; exact js_ne ev_w49b ec_w49b (by intro h9; cases h9)
            obtain ⟨w63b, ew63b⟩ : ∃ z9 : va_W, z9 = w63a.set 62 ((xq, .inr (1, [.ref (vq), .int (zI (0)), .int (zI (0)), .int (zI ((((jL σ i) + 1) + 1) + (if (σ (3 + i) 3) < 10 then 1 else 2)))])) : Nat × va_E) := ⟨_, rfl⟩
            rw [← ew63b] at hP hD
            have es_w63b : w63b[0]? = some ((a 0, .inr (9, [.ref (a 1), .ref (a 2), .ref (a 6), .ref (a 13), .ref (a 20), .int (zI (σ 0 5)), .int (zI (σ 0 6)), .int (zI (σ 0 7)), .int (zI (σ 0 8))])) : Nat × va_E) := by rw [ew63b]; exact js_ne ex_w63a es_w63a (by intro h9; cases h9)
            have ea_w63b : w63b[2]? = some ((a 2, .inl (cy 0, 3, .inr (.inr (.inr (.inr (fun i => some (a (3 + i)))))))) : Nat × va_E) := by rw [ew63b]; exact js_ne ex_w63a ea_w63a (by intro h9; cases h9)
            have ex_w63b : w63b[62]? = some ((xq, .inr (1, [.ref (vq), .int (zI (0)), .int (zI (0)), .int (zI ((((jL σ i) + 1) + 1) + (if (σ (3 + i) 3) < 10 then 1 else 2)))])) : Nat × va_E) := by rw [ew63b]; exact js_eq ex_w63a
            have ev_w63b : w63b[63]? = some ((vq, .inl (J.1, 16, .inl u63)) : Nat × va_E) := by rw [ew63b]; exact js_ne ex_w63a ev_w63a (by intro h9; cases h9)
            have ec_w63b : w63b[(3 + i)]? = some ((a (3 + i), .inr (2, [.int (zI (σ (3 + i) 0)), .int (zI (σ (3 + i) 1)), .int (zI (σ (3 + i) 2)), .int (zI (σ (3 + i) 3)), .int (zI (σ (3 + i) 4)), .int (zI (σ (3 + i) 5)), .int (zI (σ (3 + i) 6)), .int (zI (σ (3 + i) 7)), .int (zI (σ (3 + i) 8)), .int (zI (σ (3 + i) 9)), .int (zI (σ (3 + i) 10)), .int (zI (σ (3 + i) 11))])) : Nat × va_E) := by rw [ew63b]; exact js_ne ex_w63a ec_w63a (by intro h9; cases h9)
            rw [hx9]
            refine lv_pop hx hb dX7_jibs_66 rfl ?_
            refine lv_iinc (v := zI ((i : Int) + 1)) (lv' := [(2, .int (zI ((i : Int) + 1))), (0, .ref (a 0)), (1, .ref (xq))]) hx hb dX7_jibs_67 hl (k := 2) rfl (zI_add _ _) (by decide) rfl (fun ls hl => ?_)
            refine lv_goto (tgt := 10) hx hb dX7_jibs_70 (by decide) ?_
            have hn9 : jL σ (i + 1) = (((jL σ i) + 1) + 1) + (if (σ (3 + i) 3) < 10 then 1 else 2) := by rw [jL_s]; first | (rw [if_pos (by omega)]; done) | (rw [if_neg (by omega)]; done) | (rw [if_pos (by omega)]; omega) | (rw [if_neg (by omega)]; omega)
            have eW : w63b = wld cy a q σ ++ [((xq, .inr (1, [.ref (vq), .int (zI 0), .int (zI 0), .int (zI (jL σ (i + 1)))])) : Nat × va_E), ((vq, .inl (J.1, 16, .inl u63)) : Nat × va_E)] := by
              rw [hn9, ew63b, ew63a, ew49b, ew49a, ew25b, ew25a, ewl]
              simp only [js62, js63]
            rw [eW] at hP hD
            exact ihd (i + 1) u63 H locs ls (by omega) (by omega) hw63 hP hD hS (by have h9 := lv_sub hl [1, 2, 0] rfl; exact h9)
          · skip
            refine lv_bipush (v := zI 76) hx hb dX7_jibs_42 (by decide +kernel) ?_
            refine lv_goto (tgt := 49) hx hb dX7_jibs_44 (by decide) ?_
            refine va_callr (va_runV (As := [.int (zI (76))]) (rest := []) ⟨hx, hb, hml, hown, hts⟩ (c_J4_append_cf468 l D J A H.size (fun y h => hA y (Nat.le_trans hS.1 h)) w25b xq vq ((jL σ i) + 1) u25 76 62 ex_w25b 63 ev_w25b (by omega) (by omega) hw25) (cwV 1 hts gX7_jibs_J4_append_cf468 rfl rfl rfl (by decide +kernel) ⟨Nat.le_of_ble_eq_true rfl, Nat.le_of_ble_eq_true rfl⟩) ⟨jW_blind, va_recv hK hP (ci := 1) (q0 := 62) rfl ex_w25b, fun U hU hW => ⟨rfl, by rw [hU], jW_mk hP hD hZ hS hU hW⟩⟩ rfl rfl hl.1 rfl (lv_room (Nat.le_of_ble_eq_true rfl)) dX7_jibs_49 ⟨(show 2 + 0 + 0 ≤ 4 by omega), (show 20 + 0 + 0 ≤ 40 by omega)⟩) hS (fun _ _ h => h) (fun _ h => h) (fun u9 ra9 t9 H locs ht hvm hw hB hz hk hS1 => ?_)
            have eu9 := True.intro
            obtain ⟨u49, eu49⟩ : ∃ z, z = u9 := ⟨u9, rfl⟩
            rw [← eu49] at hB
            try rw [← eu49] at hw
            obtain ⟨hx9, hP9, hD9⟩ := hB
            rw [ht] at hP9
            have hP := hP9
            have hD := hD9
            have hS := hS1
            have hw49 := hw
            try dsimp only at hw49 hP hD
            obtain ⟨w49a, ew49a⟩ : ∃ z9 : va_W, z9 = w25b.set 62 ((xq, .inr (1, [.ref (vq), .int (zI (0)), .int (zI (0)), .int (zI (((jL σ i) + 1) + 1))])) : Nat × va_E) := ⟨_, rfl⟩
            rw [← ew49a] at hP hD
            have es_w49a : w49a[0]? = some ((a 0, .inr (9, [.ref (a 1), .ref (a 2), .ref (a 6), .ref (a 13), .ref (a 20), .int (zI (σ 0 5)), .int (zI (σ 0 6)), .int (zI (σ 0 7)), .int (zI (σ 0 8))])) : Nat × va_E) := by rw [ew49a]; exact js_ne ex_w25b es_w25b (by intro h9; cases h9)
            have ea_w49a : w49a[2]? = some ((a 2, .inl (cy 0, 3, .inr (.inr (.inr (.inr (fun i => some (a (3 + i)))))))) : Nat × va_E) := by rw [ew49a]; exact js_ne ex_w25b ea_w25b (by intro h9; cases h9)
            have ex_w49a : w49a[62]? = some ((xq, .inr (1, [.ref (vq), .int (zI (0)), .int (zI (0)), .int (zI (((jL σ i) + 1) + 1))])) : Nat × va_E) := by rw [ew49a]; exact js_eq ex_w25b
            have ev_w49a : w49a[63]? = some ((vq, .inl (J.1, 16, .inl u25)) : Nat × va_E) := by rw [ew49a]; exact js_ne ex_w25b ev_w25b (by intro h9; cases h9)
            have ec_w49a : w49a[(3 + i)]? = some ((a (3 + i), .inr (2, [.int (zI (σ (3 + i) 0)), .int (zI (σ (3 + i) 1)), .int (zI (σ (3 + i) 2)), .int (zI (σ (3 + i) 3)), .int (zI (σ (3 + i) 4)), .int (zI (σ (3 + i) 5)), .int (zI (σ (3 + i) 6)), .int (zI (σ (3 + i) 7)), .int (zI (σ (3 + i) 8)), .int (zI (σ (3 + i) 9)), .int (zI (σ (3 + i) 10)), .int (zI (σ (3 + i) 11))])) : Nat × va_E) := by rw [ew49a]; exact js_ne ex_w25b ec_w25b (by intro h9; cases h9)
            obtain ⟨w49b, ew49b⟩ : ∃ z9 : va_W, z9 = w49a.set 63 ((vq, .inl (J.1, 16, .inl u49)) : Nat × va_E) := ⟨_, rfl⟩
            rw [← ew49b] at hP hD
            have es_w49b : w49b[0]? = some ((a 0, .inr (9, [.ref (a 1), .ref (a 2), .ref (a 6), .ref (a 13), .ref (a 20), .int (zI (σ 0 5)), .int (zI (σ 0 6)), .int (zI (σ 0 7)), .int (zI (σ 0 8))])) : Nat × va_E) := by rw [ew49b]; exact js_ne ev_w49a es_w49a (by intro h9; cases h9)
            have ea_w49b : w49b[2]? = some ((a 2, .inl (cy 0, 3, .inr (.inr (.inr (.inr (fun i => some (a (3 + i)))))))) : Nat × va_E) := by rw [ew49b]; exact js_ne ev_w49a ea_w49a (by simp)
            have ex_w49b : w49b[62]? = some ((xq, .inr (1, [.ref (vq), .int (zI (0)), .int (zI (0)), .int (zI (((jL σ i) + 1) + 1))])) : Nat × va_E) := by rw [ew49b]; exact js_ne ev_w49a ex_w49a (by intro h9; cases h9)
            have ev_w49b : w49b[63]? = some ((vq, .inl (J.1, 16, .inl u49)) : Nat × va_E) := by rw [ew49b]; exact js_eq ev_w49a
            have ec_w49b : w49b[(3 + i)]? = some ((a (3 + i), .inr (2, [.int (zI (σ (3 + i) 0)), .int (zI (σ (3 + i) 1)), .int (zI (σ (3 + i) 2)), .int (zI (σ (3 + i) 3)), .int (zI (σ (3 + i) 4)), .int (zI (σ (3 + i) 5)), .int (zI (σ (3 + i) 6)), .int (zI (σ (3 + i) 7)), .int (zI (σ (3 + i) 8)), .int (zI (σ (3 + i) 9)), .int (zI (σ (3 + i) 10)), .int (zI (σ (3 + i) 11))])) : Nat × va_E) := by rw [ew49b]; exact js_ne ev_w49a ec_w49a (by intro h9; cases h9)
            rw [hx9]
            refine lv_pop hx hb dX7_jibs_52 rfl ?_
            refine lv_aload_n hx hb dX7_jibs_53 rfl (lv_at hl 1 rfl) ?_
            refine lv_aload_n hx hb dX7_jibs_54 rfl (lv_at hl 0 rfl) ?_
            refine va_get (D := D) (ci := 9) (v := .ref (a 2)) (C := RX7) (T := TX7) (N := 9) hx hb hts inX7 hown hK hP 0 es_w49b rfl 1 (by decide) k18 (fun _ h9 => h9) rfl dX7_jibs_55 ?_
            refine lv_iload_n hx hb dX7_jibs_58 rfl (lv_at hl 2 rfl) ?_
            refine z_aald (i := i) hx hb hKw hP 2 0 ea_w49b rfl rfl hi3 (by omega) dX7_jibs_59 ?_
            refine va_get (D := D) (ci := 2) (v := .int (zI (σ (3 + i) 3))) (C := RX0) (T := TX0) (N := 12) hx hb hts inX0 hown hK hP (3 + i) ec_w49b rfl 3 (by decide) k207 (fun _ h9 => h9) rfl dX7_jibs_60 ?_
            refine va_callr (va_runV (As := [.int (zI (σ (3 + i) 3))]) (rest := []) ⟨hx, hb, hml, hown, hts⟩ (c_J4_append_bf812 l D J A H.size (fun y h => hA y (Nat.le_trans hS.1 h)) w49b xq vq (((jL σ i) + 1) + 1) u49 (σ (3 + i) 3) 62 ex_w49b 63 ev_w49b (by omega) (by omega) hw49) (cwV 1 hts gX7_jibs_J4_append_bf812 rfl rfl rfl (by decide +kernel) ⟨Nat.le_of_ble_eq_true rfl, Nat.le_of_ble_eq_true rfl⟩) ⟨jW_blind, va_recv hK hP (ci := 1) (q0 := 62) rfl ex_w49b, fun U hU hW => ⟨rfl, by rw [hU], jW_mk hP hD hZ hS hU hW⟩⟩ rfl rfl hl.1 rfl (lv_room (Nat.le_of_ble_eq_true rfl)) dX7_jibs_63 ⟨(show 2 + 0 + 0 + 0 ≤ 4 by omega), (show 20 + 0 + 0 + 0 ≤ 40 by omega)⟩) hS (fun _ _ h => h) (fun _ h => h) (fun u9 ra9 t9 H locs ht hvm hw hB hz hk hS1 => ?_)
            have eu9 := True.intro
            obtain ⟨u63, eu63⟩ : ∃ z, z = u9 := ⟨u9, rfl⟩
            rw [← eu63] at hB
            try rw [← eu63] at hw
            obtain ⟨hx9, hP9, hD9⟩ := hB
            rw [ht] at hP9
            have hP := hP9
            have hD := hD9
            have hS := hS1
            have hw63 := hw
            try dsimp only at hw63 hP hD
            obtain ⟨w63a, ew63a⟩ : ∃ z9 : va_W, z9 = w49b.set 63 ((vq, .inl (J.1, 16, .inl u63)) : Nat × va_E) := ⟨_, rfl⟩
            rw [← ew63a] at hP hD
            have es_w63a : w63a[0]? = some ((a 0, .inr (9, [.ref (a 1), .ref (a 2), .ref (a 6), .ref (a 13), .ref (a 20), .int (zI (σ 0 5)), .int (zI (σ 0 6)), .int (zI (σ 0 7)), .int (zI (σ 0 8))])) : Nat × va_E) := by rw [ew63a]; exact js_ne ev_w49b es_w49b (by intro h9; cases h9)
            have ea_w63a : w63a[2]? = some ((a 2, .inl (cy 0, 3, .inr (.inr (.inr (.inr (fun i => some (a (3 + i)))))))) : Nat × va_E) := by rw [ew63a]; exact js_ne ev_w49b ea_w49b (by simp)
            have ex_w63a : w63a[62]? = some ((xq, .inr (1, [.ref (vq), .int (zI (0)), .int (zI (0)), .int (zI (((jL σ i) + 1) + 1))])) : Nat × va_E) := by rw [ew63a]; exact js_ne ev_w49b ex_w49b (by intro h9; cases h9)
            have ev_w63a : w63a[63]? = some ((vq, .inl (J.1, 16, .inl u63)) : Nat × va_E) := by rw [ew63a]; exact js_eq ev_w49b
            have ec_w63a : w63a[(3 + i)]? = some ((a (3 + i), .inr (2, [.int (zI (σ (3 + i) 0)), .int (zI (σ (3 + i) 1)), .int (zI (σ (3 + i) 2)), .int (zI (σ (3 + i) 3)), .int (zI (σ (3 + i) 4)), .int (zI (σ (3 + i) 5)), .int (zI (σ (3 + i) 6)), .int (zI (σ (3 + i) 7)), .int (zI (σ (3 + i) 8)), .int (zI (σ (3 + i) 9)), .int (zI (σ (3 + i) 10)), .int (zI (σ (3 + i) 11))])) : Nat × va_E) := by rw [ew63a]; exact js_ne ev_w49b ec_w49b (by intro h9; cases h9)
            obtain ⟨w63b, ew63b⟩ : ∃ z9 : va_W, z9 = w63a.set 62 ((xq, .inr (1, [.ref (vq), .int (zI (0)), .int (zI (0)), .int (zI ((((jL σ i) + 1) + 1) + (if (σ (3 + i) 3) < 10 then 1 else 2)))])) : Nat × va_E) := ⟨_, rfl⟩
            rw [← ew63b] at hP hD
            have es_w63b : w63b[0]? = some ((a 0, .inr (9, [.ref (a 1), .ref (a 2), .ref (a 6), .ref (a 13), .ref (a 20), .int (zI (σ 0 5)), .int (zI (σ 0 6)), .int (zI (σ 0 7)), .int (zI (σ 0 8))])) : Nat × va_E) := by rw [ew63b]; exact js_ne ex_w63a es_w63a (by intro h9; cases h9)
            have ea_w63b : w63b[2]? = some ((a 2, .inl (cy 0, 3, .inr (.inr (.inr (.inr (fun i => some (a (3 + i)))))))) : Nat × va_E) := by rw [ew63b]; exact js_ne ex_w63a ea_w63a (by intro h9; cases h9)
            have ex_w63b : w63b[62]? = some ((xq, .inr (1, [.ref (vq), .int (zI (0)), .int (zI (0)), .int (zI ((((jL σ i) + 1) + 1) + (if (σ (3 + i) 3) < 10 then 1 else 2)))])) : Nat × va_E) := by rw [ew63b]; exact js_eq ex_w63a
            have ev_w63b : w63b[63]? = some ((vq, .inl (J.1, 16, .inl u63)) : Nat × va_E) := by rw [ew63b]; exact js_ne ex_w63a ev_w63a (by intro h9; cases h9)
            have ec_w63b : w63b[(3 + i)]? = some ((a (3 + i), .inr (2, [.int (zI (σ (3 + i) 0)), .int (zI (σ (3 + i) 1)), .int (zI (σ (3 + i) 2)), .int (zI (σ (3 + i) 3)), .int (zI (σ (3 + i) 4)), .int (zI (σ (3 + i) 5)), .int (zI (σ (3 + i) 6)), .int (zI (σ (3 + i) 7)), .int (zI (σ (3 + i) 8)), .int (zI (σ (3 + i) 9)), .int (zI (σ (3 + i) 10)), .int (zI (σ (3 + i) 11))])) : Nat × va_E) := by rw [ew63b]; exact js_ne ex_w63a ec_w63a (by intro h9; cases h9)
            rw [hx9]
            refine lv_pop hx hb dX7_jibs_66 rfl ?_
            refine lv_iinc (v := zI ((i : Int) + 1)) (lv' := [(2, .int (zI ((i : Int) + 1))), (0, .ref (a 0)), (1, .ref (xq))]) hx hb dX7_jibs_67 hl (k := 2) rfl (zI_add _ _) (by decide) rfl (fun ls hl => ?_)
            refine lv_goto (tgt := 10) hx hb dX7_jibs_70 (by decide) ?_
            have hn9 : jL σ (i + 1) = (((jL σ i) + 1) + 1) + (if (σ (3 + i) 3) < 10 then 1 else 2) := by rw [jL_s]; first | (rw [if_pos (by omega)]; done) | (rw [if_neg (by omega)]; done) | (rw [if_pos (by omega)]; omega) | (rw [if_neg (by omega)]; omega)
            have eW : w63b = wld cy a q σ ++ [((xq, .inr (1, [.ref (vq), .int (zI 0), .int (zI 0), .int (zI (jL σ (i + 1)))])) : Nat × va_E), ((vq, .inl (J.1, 16, .inl u63)) : Nat × va_E)] := by
              rw [hn9, ew63b, ew63a, ew49b, ew49a, ew25b, ew25a, ewl]
              simp only [js62, js63]
            rw [eW] at hP hD
            exact ihd (i + 1) u63 H locs ls (by omega) (by omega) hw63 hP hD hS (by have h9 := lv_sub hl [1, 2, 0] rfl; exact h9)
  refine W.widen (k := 2) (n := 20) (by omega) (by omega) ?_
  exact loop 4 0 (fun _ => 0) H locs ls (by omega) (by omega) jF_0 hP hD hS (by have h9 := lv_sub hl [2, 1, 0] rfl; exact h9)
