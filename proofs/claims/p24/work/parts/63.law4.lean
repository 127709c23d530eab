/-! THE LAW'S BODY: what its numbers keep -/
theorem okA_sI : okA 0 (σI 1 5) (fun i => i) σI := by
  refine ⟨by unfold okS; decide, by unfold okW; decide, fun i hi => ?_, fun i hi => ?_, fun i hi => ?_, by unfold okL; decide, fun i hi => ?_, ⟨fun i hi => hi, fun i j _ _ e => e⟩, fun _ => ⟨fun i hi => ?_, by first | rfl | decide⟩⟩
  · rcases (show i = 0 ∨ i = 1 ∨ i = 2 by omega) with rfl | rfl | rfl <;> (unfold okC; decide)
  · rw [sI_0 (by omega) (by omega) (by omega)]; unfold okZ; decide
  · rw [sI_0 (by omega) (by omega) (by omega)]; unfold okM; decide
  · rw [sI_0 (by omega) (by omega) (by omega)]; unfold okP; decide
  · exact absurd hi (by show ¬ (i : Int) < 0; omega)
theorem siF_14c {t wi : Int} {q : Nat → Nat} {σ : Nat → Nat → Int} (hO : okA t wi q σ) : (siF q σ 14 = 1 ∧ σ 20 1 = σ 20 2) ∨ (siF q σ 14 = 0 ∧ ¬ σ 20 1 = σ 20 2) := by
  have e : siF q σ 14 = if σ 20 1 = σ 20 2 ∧ faF q σ = -1 then 1 else 0 := rfl
  by_cases h : σ 20 1 = σ 20 2
  · exact Or.inl ⟨by rw [e, if_pos ⟨h, faF_whole hO h⟩], h⟩
  · exact Or.inr ⟨by rw [e, if_neg (fun z => h z.1)], h⟩
def wrN (σ : Nat → Nat → Int) : Nat → Int
  | 0 => 0
  | n + 1 => wrN σ n + σ (3 + n) 11
theorem wrN_0 (σ : Nat → Nat → Int) : wrN σ 0 = 0 := rfl
theorem wrN_1 (σ : Nat → Nat → Int) : wrN σ 1 = 0 + σ 3 11 := rfl
theorem wrN_2 (σ : Nat → Nat → Int) : wrN σ 2 = 0 + σ 3 11 + σ 4 11 := rfl
theorem wrN_3 (σ : Nat → Nat → Int) : wrN σ 3 = 0 + σ 3 11 + σ 4 11 + σ 5 11 := rfl
theorem wrN_mono {σ τ : Nat → Nat → Int} (h : ∀ i, i < 3 → σ (3 + i) 11 ≤ τ (3 + i) 11) (h0 : ∀ i, i < 3 → 0 ≤ τ (3 + i) 11) (n k : Nat) (hn : n ≤ k) (hk : k ≤ 3) : wrN σ n ≤ wrN τ k := by
  have a0 : σ 3 11 ≤ τ 3 11 := h 0 (by omega)
  have a1 : σ 4 11 ≤ τ 4 11 := h 1 (by omega)
  have a2 : σ 5 11 ≤ τ 5 11 := h 2 (by omega)
  have b0 : 0 ≤ τ 3 11 := h0 0 (by omega)
  have b1 : 0 ≤ τ 4 11 := h0 1 (by omega)
  have b2 : 0 ≤ τ 5 11 := h0 2 (by omega)
  have s0 := wrN_0 σ
  have s1 := wrN_1 σ
  have s2 := wrN_2 σ
  have s3 := wrN_3 σ
  have t0 := wrN_0 τ
  have t1 := wrN_1 τ
  have t2 := wrN_2 τ
  have t3 := wrN_3 τ
  rcases (show k = 0 ∨ k = 1 ∨ k = 2 ∨ k = 3 by omega) with rfl | rfl | rfl | rfl <;> rcases (show n = 0 ∨ n = 1 ∨ n = 2 ∨ n = 3 by omega) with rfl | rfl | rfl | rfl <;> omega
theorem wrN_b {t wi : Int} {q : Nat → Nat} {σ : Nat → Nat → Int} (hO : okA t wi q σ) : 0 ≤ wrN σ (σ 0 5).toNat ∧ wrN σ (σ 0 5).toNat ≤ 3 * t := by
  obtain ⟨oS, -, oC, -⟩ := hO
  unfold okS at oS
  have o0 : okC t 0 (σ 0 5) wi (σ 3) := oC 0 (by omega)
  have o1 : okC t 1 (σ 0 5) wi (σ 4) := oC 1 (by omega)
  have o2 : okC t 2 (σ 0 5) wi (σ 5) := oC 2 (by omega)
  unfold okC at o0 o1 o2
  have e0 : 0 ≤ σ 3 11 ∧ σ 3 11 ≤ t := ⟨o0.2.2.2.2.2.2.2.1, o0.2.2.2.2.2.2.2.2.1⟩
  have e1 : 0 ≤ σ 4 11 ∧ σ 4 11 ≤ t := ⟨o1.2.2.2.2.2.2.2.1, o1.2.2.2.2.2.2.2.2.1⟩
  have e2 : 0 ≤ σ 5 11 ∧ σ 5 11 ≤ t := ⟨o2.2.2.2.2.2.2.2.1, o2.2.2.2.2.2.2.2.2.1⟩
  have s0 := wrN_0 σ
  have s1 := wrN_1 σ
  have s2 := wrN_2 σ
  have s3 := wrN_3 σ
  clear o0 o1 o2
  rcases (show (σ 0 5).toNat = 0 ∨ (σ 0 5).toNat = 1 ∨ (σ 0 5).toNat = 2 ∨ (σ 0 5).toNat = 3 by omega) with e | e | e | e <;> rw [e] <;> omega
/-- the numbers that the law took down, none above the site's own -/
def nrL (f : Nat → Int) (σ : Nat → Nat → Int) : Prop := (0 ≤ f 0 ∧ f 0 ≤ σ 1 0) ∧ (0 ≤ f 1 ∧ f 1 ≤ σ 1 6) ∧ (0 ≤ f 2 ∧ f 2 ≤ σ 20 2) ∧ (0 ≤ f 3 ∧ f 3 ≤ σ 0 8) ∧ 0 ≤ f 4 ∧ f 4 ≤ wrN σ (σ 0 5).toNat
theorem nrL_mono {t t2 wi wi2 : Int} {q q2 : Nat → Nat} {σ τ : Nat → Nat → Int} {f : Nat → Int} (hE : Ev σ τ) (hO : okA t wi q σ) (hO2 : okA t2 wi2 q2 τ) (h : nrL f σ) : nrL f τ := by
  obtain ⟨v1, v2, v3, v4, v5, v6, -⟩ := hE
  have o1 := hO.1
  have o2 := hO2.1
  unfold okS at o1 o2
  have hc : ∀ i, i < 3 → 0 ≤ τ (3 + i) 11 := fun i hi => by
    have o := hO2.2.2.1 i hi
    unfold okC at o
    exact o.2.2.2.2.2.2.2.1
  have hw := wrN_mono v6 hc (σ 0 5).toNat (τ 0 5).toNat (by omega) (by omega)
  unfold nrL at h ⊢
  omega
theorem nrL_0 {t wi : Int} {q : Nat → Nat} {σ : Nat → Nat → Int} (hO : okA t wi q σ) : nrL (fun _ => 0) σ := by
  have hb := wrN_b hO
  obtain ⟨oS, oW, -, -, -, oL, -⟩ := hO
  unfold okS at oS
  unfold okW at oW
  unfold okL at oL
  show (0 ≤ (0 : Int) ∧ 0 ≤ σ 1 0) ∧ (0 ≤ (0 : Int) ∧ 0 ≤ σ 1 6) ∧ (0 ≤ (0 : Int) ∧ 0 ≤ σ 20 2) ∧ (0 ≤ (0 : Int) ∧ 0 ≤ σ 0 8) ∧ 0 ≤ (0 : Int) ∧ 0 ≤ wrN σ (σ 0 5).toNat
  omega
theorem nrL_now {t wi : Int} {q : Nat → Nat} {σ : Nat → Nat → Int} {g : Nat → Int} (hO : okA t wi q σ) (h0 : g 0 = σ 1 0) (h1 : g 1 = σ 1 6) (h2 : g 2 = σ 20 2) (h3 : g 3 = σ 0 8) (h4 : g 4 = wrN σ (σ 0 5).toNat) : nrL g σ := by
  have hb := wrN_b hO
  obtain ⟨oS, oW, -, -, -, oL, -⟩ := hO
  unfold okS at oS
  unfold okW at oW
  unfold okL at oL
  unfold nrL
  omega
theorem nrL_le {t wi : Int} {q : Nat → Nat} {σ : Nat → Nat → Int} {f g : Nat → Int} (hO : okA t wi q σ) (h : nrL f σ) (h0 : g 0 = σ 1 0) (h1 : g 1 = σ 1 6) (h2 : g 2 = σ 20 2) (h3 : g 3 = σ 0 8) (h4 : g 4 = wrN σ (σ 0 5).toNat) : ∀ k : Nat, k < 5 → rg (f k) ∧ rg (g k) ∧ f k ≤ g k := by
  have hb := wrN_b hO
  obtain ⟨oS, oW, -, -, -, oL, -⟩ := hO
  unfold okS at oS
  unfold okW at oW
  unfold okL at oL
  unfold nrL at h
  intro k hk
  rcases (show k = 0 ∨ k = 1 ∨ k = 2 ∨ k = 3 ∨ k = 4 by omega) with rfl | rfl | rfl | rfl | rfl <;> exact ⟨⟨by omega, by omega⟩, ⟨by omega, by omega⟩, by omega⟩
/-! its two arrays of five ints stand behind the site's cells -/
abbrev eI (cI : ClassId) (h : Nat → Int) : va_E := .inl (cI, 5, .inl (fun i => zI (h i)))
theorem lw_upd (h : Nat → Int) (k : Nat) (v : Int) : upd (fun i => zI (h i)) k (zI v) = fun i => zI (upr h k v i) := by
  funext i
  unfold upd upr
  by_cases e : i = k
  · rw [if_pos e, if_pos e]
  · rw [if_neg e, if_neg e]
section ZLW
variable {p : Program} {l : Launch} {e : Env} {R : Room} {s : State} {m : MethodId} {args : Array Value} {below : List Frame} {meth : Method} {c : Code} {H H0 : Heap} {locs : List Loc} {cells slots : Nat} {Q : State → Prop} {cc : ByteArray} {pc : Nat} {ls : Array Slot} {rest : List Value} {D : va_G} {A : Nat → Prop} {tys : List (ClassId × FieldType)} {ws : va_W} {ar : Nat} {cI : ClassId} {h : Nat → Int} {z v : Int}
theorem z_iald (hx : p.tables.exec = Jvm.exec) (hb : c.code = cc) (hK : va_K D vwCl tys s) (hP : va_P D vwCl ws H) (q0 t0 : Nat) (ha : ws[q0]? = some (ar, eI cI h)) (ht : tys[t0]? = some (cI, .int)) (k : Nat) (hz : z = (k : Int)) (hk : k < 5) (hdg : decode cc pc = .ok (.iaload, 1))
    (kk : W p l e R s m args below meth c H locs cells slots Q (F0 m (pc + 1) ls (.int (zI (h k)) :: rest))) : W p l e R s m args below meth c H locs cells slots Q (F0 m pc ls (.int (zI z) :: .ref ar :: rest)) := by
  subst hz
  refine va_iald hx hb hK hP q0 t0 ha ht (zI_in (by omega) (by omega) (by omega)) hdg ?_
  rw [zI_clamp (by omega) ⟨by omega, by omega⟩, Int.toNat_natCast]
  exact kk
theorem z_iast (hx : p.tables.exec = Jvm.exec) (hb : c.code = cc) (hK : va_K D vwCl tys s) (hP : va_P D vwCl ws H) (hD : va_D A ws) (hS : va_S A H0 H locs) (q0 t0 : Nat) (ha : ws[q0]? = some (ar, eI cI h)) (ht : tys[t0]? = some (cI, .int)) (k : Nat) (hz : z = (k : Int)) (hk : k < 5) (hdg : decode cc pc = .ok (.iastore, 1))
    (kk : ∀ (H1 : Heap) (locs1 : List Loc), va_P D vwCl (ws.set q0 (ar, eI cI (upr h k v))) H1 → va_D A (ws.set q0 (ar, eI cI (upr h k v))) → va_S A H0 H1 locs1 → W p l e R s m args below meth c H1 locs1 cells slots Q (F0 m (pc + 1) ls rest)) : W p l e R s m args below meth c H locs cells slots Q (F0 m pc ls (.int (zI v) :: .int (zI z) :: .ref ar :: rest)) := by
  subst hz
  refine va_iast hx hb hK hP hD hS q0 t0 ha ht (zI_in (by omega) (by omega) (by omega)) hdg (fun H1 locs1 h1 h2 h3 => ?_)
  rw [zI_clamp (by omega) ⟨by omega, by omega⟩, Int.toNat_natCast, lw_upd] at h1 h2
  exact kk H1 locs1 h1 h2 h3
end ZLW
section LWX
variable {D : va_G} {cy : Nat → ClassId} {a q : Nat → Nat} {σ : Nat → Nat → Int} {x y y' : Nat × va_E} {A : Nat → Prop} {H : Heap}
theorem lw_p62 : (wld cy a q σ ++ [x, y])[62]? = some x := by
  rw [List.getElem?_append_right (by rw [wld_len]; omega), wld_len]
  rfl
theorem lw_p63 : (wld cy a q σ ++ [x, y])[63]? = some y := by
  rw [List.getElem?_append_right (by rw [wld_len]; omega), wld_len]
  rfl
theorem lw_s63 : (wld cy a q σ ++ [x, y]).set 63 y' = wld cy a q σ ++ [x, y'] := by
  rw [List.set_append_right _ _ (by rw [wld_len]; omega), wld_len]
  rfl
theorem lw_drop {z : Nat × va_E} {k : Nat} (h : (wld cy a q σ ++ [y])[k]? = some z) : ∃ j, (wld cy a q σ ++ [x, y])[j]? = some z ∧ ((j = k ∧ k < 62) ∨ (j = 63 ∧ k = 62)) := by
  by_cases c9 : k < 62
  · refine ⟨k, ?_, Or.inl ⟨rfl, c9⟩⟩
    rw [List.getElem?_append_left (by rw [wld_len]; exact c9)] at h ⊢
    exact h
  · have h1 : k < (wld cy a q σ ++ [y]).length := (List.getElem?_eq_some_iff.mp h).1
    have h2 : (wld cy a q σ ++ [y]).length = 63 := by
      rw [List.length_append, wld_len]
      rfl
    have h3 : k = 62 := by omega
    subst h3
    refine ⟨63, ?_, Or.inr ⟨rfl, rfl⟩⟩
    rw [List.getElem?_append_right (by rw [wld_len]; omega), wld_len] at h ⊢
    exact h
theorem lw_dropP (h : va_P D vwCl (wld cy a q σ ++ [x, y]) H) : va_P D vwCl (wld cy a q σ ++ [y]) H := fun k z hk => by
  obtain ⟨j, hj, -⟩ := lw_drop (x := x) hk
  exact h j z hj
theorem lw_dropD (h : va_D A (wld cy a q σ ++ [x, y])) : va_D A (wld cy a q σ ++ [y]) := by
  refine ⟨fun i j u v hi hj e => ?_, fun k u hk => ?_⟩
  · obtain ⟨i9, hi9, e1⟩ := lw_drop (x := x) hi
    obtain ⟨j9, hj9, e2⟩ := lw_drop (x := x) hj
    have h9 := h.1 i9 j9 u v hi9 hj9 e
    omega
  · obtain ⟨j, hj, -⟩ := lw_drop (x := x) hk
    exact h.2 j u hj
end LWX
theorem lw_same {D : va_G} {cy : Nat → ClassId} {c1 c2 : ClassId} {s : State} (h : va_K D vwCl (wty cy ++ [(c1, .int)] ++ [(c2, .int)]) s) : c1 = c2 := by
  have e1 : s.vm.findClass ("[" ++ FieldType.int.toString) = some c1 := (h.2 4 _ rfl).2
  have e2 : s.vm.findClass ("[" ++ FieldType.int.toString) = some c2 := (h.2 5 _ rfl).2
  exact Option.some.inj (e1.symm.trans e2)
theorem lw_xblind {b L : Nat} {xs : Nat → Int32} {av : List Value} : FrameBlind (va_Pc av (fun U => va_X b L xs U U.heap ∧ b < U.heap.size)) := fun v U g mk h => ⟨h.1, va_X.moved (u := U) (U := U.calling g mk v) (Vm.Alike.refl U.vm) h.2.1, h.2.2⟩
