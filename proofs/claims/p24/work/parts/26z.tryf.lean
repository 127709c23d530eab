/-! WHAT A LIFT THAT IS TRIED SAYS: its verdict, the step, the least capacity of its way -/
def bw (x y d : Int) : Prop := (x ≤ d ∧ d ≤ y) ∨ (y ≤ d ∧ d ≤ x)
/-- .. at its last radius -/
theorem tryR_at {σ : Nat → Nat → Int} {i : Nat} {load to an : Int} : ∀ (n : Nat) (st hd le : Int), 0 ≤ st → ((tryR σ i load to an n st to hd le).1 = 0 ∧ (tryR σ i load to an n st to hd le).2.1 = -1 ∧ (tryR σ i load to an n st to hd le).2.2 ≤ le ∧ ((tryR σ i load to an n st to hd le).2.2 = le ∨ (tryR σ i load to an n st to hd le).2.2 = cpF (σ (3 + i)) to (σ 1 5))) ∨ (3 ≤ (tryR σ i load to an n st to hd le).1 ∧ (tryR σ i load to an n st to hd le).1 ≤ 5 ∧ st ≤ (tryR σ i load to an n st to hd le).2.1 ∧ (tryR σ i load to an n st to hd le).2.1 ≤ st + n ∧ (tryR σ i load to an n st to hd le).2.2 = -1)
  | 0, st, hd, le, h => Or.inl ⟨rfl, rfl, Int.le_refl _, Or.inl rfl⟩
  | n + 1, st, hd, le, h => by
    have hv := vdF_b σ load (cpF (σ (3 + i)) to (σ 1 5)) (σ (3 + i) 0) hd
    by_cases h0 : vdF σ load (cpF (σ (3 + i)) to (σ 1 5)) (σ (3 + i) 0) hd = 0
    · rw [tryR_turn h0 rfl]
      have ih := tryR_at (σ := σ) (i := i) (load := load) (to := to) (an := an) n (st + 1) (anF hd an) (mnI le (cpF (σ (3 + i)) to (σ 1 5))) (by omega)
      have hm : mnI le (cpF (σ (3 + i)) to (σ 1 5)) = le ∨ mnI le (cpF (σ (3 + i)) to (σ 1 5)) = cpF (σ (3 + i)) to (σ 1 5) := by
        unfold mnI
        split <;> simp
      have hm2 : mnI le (cpF (σ (3 + i)) to (σ 1 5)) ≤ le := by
        unfold mnI
        split <;> omega
      omega
    · rw [tryR_no h0]
      right
      show 3 ≤ vdF σ load (cpF (σ (3 + i)) to (σ 1 5)) (σ (3 + i) 0) hd ∧ vdF σ load (cpF (σ (3 + i)) to (σ 1 5)) (σ (3 + i) 0) hd ≤ 5 ∧ st ≤ st ∧ st ≤ st + ((n + 1 : Nat) : Int) ∧ (-1 : Int) = -1
      omega
/-- .. on its way there -/
theorem tryR_way {σ : Nat → Nat → Int} {i : Nat} {load to an : Int} : ∀ (n : Nat) (st ra hd le : Int), 0 ≤ st → abI (to - ra) + 1 ≤ n → ((tryR σ i load to an n st ra hd le).1 = 0 ∧ (tryR σ i load to an n st ra hd le).2.1 = -1 ∧ (tryR σ i load to an n st ra hd le).2.2 ≤ le ∧ (∀ d, bw ra to d → (tryR σ i load to an n st ra hd le).2.2 ≤ cpF (σ (3 + i)) d (σ 1 5) ∧ load ≤ cpF (σ (3 + i)) d (σ 1 5)) ∧ ((tryR σ i load to an n st ra hd le).2.2 = le ∨ ∃ d, bw ra to d ∧ (tryR σ i load to an n st ra hd le).2.2 = cpF (σ (3 + i)) d (σ 1 5))) ∨ (3 ≤ (tryR σ i load to an n st ra hd le).1 ∧ (tryR σ i load to an n st ra hd le).1 ≤ 5 ∧ st ≤ (tryR σ i load to an n st ra hd le).2.1 ∧ (tryR σ i load to an n st ra hd le).2.1 ≤ st + n ∧ (tryR σ i load to an n st ra hd le).2.2 = -1)
  | 0, st, ra, hd, le, h, h2 => by
    have : 0 ≤ abI (to - ra) := by
      unfold abI
      split <;> omega
    omega
  | n + 1, st, ra, hd, le, h, h2 => by
    have hv := vdF_b σ load (cpF (σ (3 + i)) ra (σ 1 5)) (σ (3 + i) 0) hd
    by_cases h0 : vdF σ load (cpF (σ (3 + i)) ra (σ 1 5)) (σ (3 + i) 0) hd = 0
    · have hm : mnI le (cpF (σ (3 + i)) ra (σ 1 5)) = le ∨ mnI le (cpF (σ (3 + i)) ra (σ 1 5)) = cpF (σ (3 + i)) ra (σ 1 5) := by
        unfold mnI
        split <;> simp
      have hm2 : mnI le (cpF (σ (3 + i)) ra (σ 1 5)) ≤ le ∧ mnI le (cpF (σ (3 + i)) ra (σ 1 5)) ≤ cpF (σ (3 + i)) ra (σ 1 5) := by
        unfold mnI
        split <;> omega
      by_cases e : ra = to
      · subst e
        rw [tryR_turn h0 rfl]
        rcases tryR_at (σ := σ) (i := i) (load := load) (to := ra) (an := an) n (st + 1) (anF hd an) (mnI le (cpF (σ (3 + i)) ra (σ 1 5))) (by omega) with ih | ih
        · left
          refine ⟨ih.1, ih.2.1, by omega, fun d hd => ?_, ?_⟩
          · have : d = ra := by
              unfold bw at hd
              omega
            subst this
            omega
          · rcases ih.2.2.2 with q | q
            · rcases hm with q2 | q2
              · left; omega
              · right; exact ⟨ra, by unfold bw; omega, by omega⟩
            · right; exact ⟨ra, by unfold bw; omega, q⟩
        · right
          omega
      · rw [tryR_go h0 e]
        have hab : abI (to - (if ra < to then ra + 1 else ra + -1)) + 1 ≤ n := by
          unfold abI at h2 ⊢
          repeat' split
          all_goals (repeat' split at h2)
          all_goals omega
        have hb : ∀ d, bw ra to d → d = ra ∨ bw (if ra < to then ra + 1 else ra + -1) to d := by
          intro d hd
          unfold bw at hd ⊢
          split <;> omega
        have hb2 : ∀ d, bw (if ra < to then ra + 1 else ra + -1) to d → bw ra to d := by
          intro d hd
          unfold bw at hd ⊢
          split at hd <;> omega
        rcases tryR_way (σ := σ) (i := i) (load := load) (to := to) (an := an) n (st + 1) (if ra < to then ra + 1 else ra + -1) hd (mnI le (cpF (σ (3 + i)) ra (σ 1 5))) (by omega) hab with ih | ih
        · left
          refine ⟨ih.1, ih.2.1, by omega, fun d hd9 => ?_, ?_⟩
          · rcases hb d hd9 with q | q
            · subst q
              omega
            · exact ih.2.2.2.1 d q
          · rcases ih.2.2.2.2 with q | ⟨d, q1, q2⟩
            · rcases hm with q2 | q2
              · left; omega
              · right; exact ⟨ra, by unfold bw; omega, by omega⟩
            · right; exact ⟨d, hb2 d q1, q2⟩
        · right
          omega
    · rw [tryR_no h0]
      right
      show 3 ≤ vdF σ load (cpF (σ (3 + i)) ra (σ 1 5)) (σ (3 + i) 0) hd ∧ vdF σ load (cpF (σ (3 + i)) ra (σ 1 5)) (σ (3 + i) 0) hd ≤ 5 ∧ st ≤ st ∧ st ≤ st + ((n + 1 : Nat) : Int) ∧ (-1 : Int) = -1
      omega
/-- a lift that is done: the least capacity of its way, which is no less than the load; else where it is refused -/
theorem tryF_b (σ : Nat → Nat → Int) (i : Nat) (load fr to an : Int) (hab : -30 ≤ to - fr ∧ to - fr ≤ 30) : ((tryF σ i load fr to an).1 = 0 ∧ (tryF σ i load fr to an).2.1 = -1 ∧ (∀ d, bw fr to d → (tryF σ i load fr to an).2.2 ≤ cpF (σ (3 + i)) d (σ 1 5) ∧ load ≤ cpF (σ (3 + i)) d (σ 1 5)) ∧ (∃ d, bw fr to d ∧ (tryF σ i load fr to an).2.2 = cpF (σ (3 + i)) d (σ 1 5))) ∨ (1 ≤ (tryF σ i load fr to an).1 ∧ (tryF σ i load fr to an).1 ≤ 2 ∧ (tryF σ i load fr to an).2.1 = -1 ∧ (tryF σ i load fr to an).2.2 = -1) ∨ (3 ≤ (tryF σ i load fr to an).1 ∧ (tryF σ i load fr to an).1 ≤ 5 ∧ 0 ≤ (tryF σ i load fr to an).2.1 ∧ (tryF σ i load fr to an).2.1 ≤ 1000 ∧ (tryF σ i load fr to an).2.2 = -1) := by
  unfold tryF
  by_cases h1 : σ (3 + i) 5 = 0
  · rw [if_pos h1]
    right; left
    decide
  · rw [if_neg h1]
    by_cases h2 : 80 ≤ σ (3 + i) 10
    · rw [if_pos h2]
      right; left
      decide
    · rw [if_neg h2]
      have hsb := stF_b (σ (3 + i) 3) an
      have hb := abI_b hab
      rcases tryR_way (σ := σ) (i := i) (load := load) (to := to) (an := an) (abI (to - fr) + stF (σ (3 + i) 3) an + 1).toNat 0 fr (σ (3 + i) 3) (cpF (σ (3 + i)) fr (σ 1 5)) (Int.le_refl _) (by omega) with ih | ih
      · left
        refine ⟨ih.1, ih.2.1, ih.2.2.2.1, ?_⟩
        rcases ih.2.2.2.2 with q | q
        · exact ⟨fr, by unfold bw; omega, q⟩
        · exact q
      · right; right
        omega
/-- .. as numbers that fit -/
theorem tryF_w {σ : Nat → Nat → Int} {i : Nat} {load fr to an : Int} (h : (tryF σ i load fr to an).1 = 0) : ¬ σ (3 + i) 5 = 0 ∧ σ (3 + i) 10 < 80 := by
  unfold tryF at h
  by_cases h1 : σ (3 + i) 5 = 0
  · rw [if_pos h1] at h
    exact absurd h (by decide)
  · rw [if_neg h1] at h
    by_cases h2 : 80 ≤ σ (3 + i) 10
    · rw [if_pos h2] at h
      exact absurd h (by decide)
    · exact ⟨h1, by omega⟩
theorem tryF_n {σ : Nat → Nat → Int} {i : Nat} {load fr to an : Int} (hT : 0 ≤ σ (3 + i) 9 ∧ σ (3 + i) 9 ≤ σ (3 + i) 8 ∧ σ (3 + i) 8 ≤ σ (3 + i) 7 ∧ σ (3 + i) 7 ≤ σ (3 + i) 6 ∧ σ (3 + i) 6 ≤ 99) (hw : 0 ≤ σ 1 5) (h1 : 10 ≤ fr ∧ fr ≤ 40) (h2 : 10 ≤ to ∧ to ≤ 40) : 0 ≤ (tryF σ i load fr to an).1 ∧ (tryF σ i load fr to an).1 ≤ 5 ∧ -1 ≤ (tryF σ i load fr to an).2.1 ∧ (tryF σ i load fr to an).2.1 ≤ 1000 ∧ -1 ≤ (tryF σ i load fr to an).2.2 ∧ (tryF σ i load fr to an).2.2 ≤ 1000 ∧ ((tryF σ i load fr to an).1 = 0 → load ≤ (tryF σ i load fr to an).2.2) ∧ (2 < (tryF σ i load fr to an).1 ↔ 0 ≤ (tryF σ i load fr to an).2.1) ∧ ((tryF σ i load fr to an).1 ≠ 0 → (tryF σ i load fr to an).2.2 = -1) := by
  rcases tryF_b σ i load fr to an (by omega) with h | h | h
  · obtain ⟨d, hd, e⟩ := h.2.2.2
    have hc := cpF_b hT d (σ 1 5) (by unfold bw at hd; omega) hw
    have hl := (h.2.2.1 d hd).2
    omega
  · omega
  · omega
