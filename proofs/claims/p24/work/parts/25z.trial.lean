/-! A CELL BESIDE THE SITE -/
theorem wA_one {x n y : Nat} {e : va_E} (h : va_A [(x, e)] n y) : y = x ∨ n ≤ y := by
  rcases h with ⟨k, e1, h⟩ | h
  · match k, h with
    | 0, h => cases h; exact Or.inl rfl
    | k + 1, h => simp at h
  · exact Or.inr h
theorem wA_two {x n : Nat} {e : va_E} : va_A [(x, e)] n x := Or.inl ⟨0, e, rfl⟩
theorem wD_one {x : Nat} {e : va_E} : va_D (fun _ => True) [(x, e)] := by
  refine ⟨fun i j p q hi hj _ => ?_, fun _ _ _ => trivial⟩
  have h1 := (List.getElem?_eq_some_iff.mp hi).1
  have h2 := (List.getElem?_eq_some_iff.mp hj).1
  simp at h1 h2
  omega
theorem wD_same {A : Nat → Prop} {w : va_W} {x : Nat} {e e' : va_E} (hD : va_D A (w ++ [(x, e)])) : va_D A (w ++ [(x, e')]) := by
  have key : ∀ (k : Nat) (y : Nat × va_E), (w ++ [(x, e')])[k]? = some y → ∃ z, (w ++ [(x, e)])[k]? = some z ∧ z.1 = y.1 := by
    intro k y hy
    by_cases h : k < w.length
    · rw [List.getElem?_append_left h] at hy
      exact ⟨y, by rw [List.getElem?_append_left h]; exact hy, rfl⟩
    · rw [List.getElem?_append_right (by omega)] at hy
      have h2 := (List.getElem?_eq_some_iff.mp hy).1
      simp at h2
      rw [h2] at hy
      cases hy
      exact ⟨(x, e), by rw [List.getElem?_append_right (by omega), h2]; rfl, rfl⟩
  refine ⟨fun i j y z hi hj e9 => ?_, fun k y hk => ?_⟩
  · obtain ⟨y0, h1, h2⟩ := key i y hi
    obtain ⟨z0, h3, h4⟩ := key j z hj
    exact hD.1 i j y0 z0 h1 h3 (by rw [h2, h4, e9])
  · obtain ⟨y0, h1, h2⟩ := key k y hk
    rw [← h2]
    exact hD.2 k y0 h1
theorem wX_join {D : va_G} {A : Nat → Prop} {w : va_W} {x : Nat} {e e' : va_E} {H H1 : Heap} (hP : va_P D vwCl (w ++ [(x, e)]) H) (hD : va_D A (w ++ [(x, e)])) (hk : ∀ y : Nat, y < H.size → ¬ va_A [(x, e)] H.size y → H1[y]? = H[y]?) (h1 : va_P D vwCl [(x, e')] H1) : va_P D vwCl (w ++ [(x, e')]) H1 := by
  refine va_P.app (fun k y hy => ?_) h1
  have hat := wP_left hP k y hy
  have hlt := (List.getElem?_eq_some_iff.mp hy).1
  refine hat.kept (hk y.1 hat.lt (fun hA => ?_))
  rcases wA_one hA with h | h
  · have h2 : (w ++ [(x, e)])[k]? = some y := by rw [List.getElem?_append_left hlt]; exact hy
    have h3 : (w ++ [(x, e)])[w.length]? = some (x, e) := by rw [List.getElem?_append_right (Nat.le_refl _), Nat.sub_self]; rfl
    have := hD.1 k w.length y (x, e) h2 h3 h
    omega
  · have := hat.lt
    omega
theorem abI_b {x : Int} (h : -30 ≤ x ∧ x ≤ 30) : 0 ≤ abI x ∧ abI x ≤ 30 := by
  unfold abI
  split <;> omega
theorem mnI_b {x y : Int} (hx : 0 ≤ x) (hy : 0 ≤ y) : 0 ≤ mnI x y ∧ mnI x y ≤ x := by
  unfold mnI
  split <;> omega
/-- one more cell behind the site: read at its place -/
theorem wg_X {cy : Nat → ClassId} {a q : Nat → Nat} {σ : Nat → Nat → Int} {y : Nat × va_E} {X : va_W} : (wld cy a q σ ++ y :: X)[62]? = some y := by
  rw [List.getElem?_append_right (by rw [wld_len]; omega), wld_len]
  rfl
