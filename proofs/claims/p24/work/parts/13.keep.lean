/-! WHAT KEEPS A SITE'S ORDER: rows that are written one by one -/
theorem g_ne {σ : Nat → Nat → Int} {k j k' j' : Nat} {z : Int} (h : k' ≠ k) : up2 σ k j z k' j' = σ k' j' := by rw [up2_n h]
theorem g_fe {σ : Nat → Nat → Int} {k j j' : Nat} {z : Int} (h : j' ≠ j) : up2 σ k j z k j' = σ k j' := by rw [up2_s, upr_n h]
theorem g_eq {σ : Nat → Nat → Int} {k j : Nat} {z : Int} : up2 σ k j z k j = z := by rw [up2_s, upr_s]
theorem upR_R (σ : Nat → Nat → Int) (k : Nat) (r r' : Nat → Int) : upR (upR σ k r) k r' = upR σ k r' := by
  funext i
  unfold upR
  by_cases h : i = k
  · rw [if_pos h, if_pos h]
  · rw [if_neg h, if_neg h, if_neg h]
theorem lastS_kept {q : Nat → Nat} {σ τ : Nat → Nat → Int} : ∀ n : Nat, (∀ i, i < n → τ (22 + q i) = σ (22 + q i)) → lastS q τ n = lastS q σ n
  | 0, _ => rfl
  | n + 1, h => by
    show τ (22 + q n) 5 = σ (22 + q n) 5
    rw [h n (by omega)]
theorem okH_kept {q : Nat → Nat} {σ τ : Nat → Nat → Int} (h : ∀ k, 20 ≤ k → τ k = σ k) (oH : okH q σ) : okH q τ := by
  intro e
  rw [h 20 (by omega)] at e ⊢
  obtain ⟨h1, h2⟩ := oH e
  refine ⟨fun i hi => ?_, ?_⟩
  · rw [h (22 + q i) (by omega), lastS_kept i (fun j _ => h _ (by omega))]
    exact h1 i hi
  · rw [lastS_kept _ (fun j _ => h _ (by omega))]
    exact h2
theorem okA_C {t wi : Int} {q : Nat → Nat} {σ : Nat → Nat → Int} {i : Nat} {r : Nat → Int} (h : okA t wi q σ) (hi : i < 3) (hr : okC t i (σ 0 5) wi r) : okA t wi q (upR σ (3 + i) r) := by
  obtain ⟨oS, oW, oC, oZ, oM, oL, oP, oQ, oH⟩ := h
  have n0 : ∀ k, k ≠ 3 + i → upR σ (3 + i) r k = σ k := fun k hk => upR_n hk
  refine ⟨by rw [n0 0 (by omega)]; exact oS, by rw [n0 1 (by omega)]; exact oW, fun j hj => ?_, fun j hj => by rw [n0 _ (by omega)]; exact oZ j hj, fun j hj => by rw [n0 _ (by omega)]; exact oM j hj, by rw [n0 20 (by omega)]; exact oL, fun j hj => by rw [n0 _ (by omega)]; exact oP j hj, oQ, okH_kept (fun k hk => n0 k (by omega)) oH⟩
  rw [n0 0 (by omega)]
  by_cases e : j = i
  · subst e
    rw [upR_s]
    exact hr
  · rw [n0 _ (by omega)]
    exact oC j hj
theorem okA_W {t wi : Int} {q : Nat → Nat} {σ : Nat → Nat → Int} {r : Nat → Int} (h : okA t wi q σ) (hr : okW r) : okA t wi q (upR σ 1 r) := by
  obtain ⟨oS, oW, oC, oZ, oM, oL, oP, oQ, oH⟩ := h
  have n0 : ∀ k, k ≠ 1 → upR σ 1 r k = σ k := fun k hk => upR_n hk
  refine ⟨by rw [n0 0 (by omega)]; exact oS, by rw [upR_s]; exact hr, fun j hj => by rw [n0 0 (by omega), n0 _ (by omega)]; exact oC j hj, fun j hj => by rw [n0 _ (by omega)]; exact oZ j hj, fun j hj => by rw [n0 _ (by omega)]; exact oM j hj, by rw [n0 20 (by omega)]; exact oL, fun j hj => by rw [n0 _ (by omega)]; exact oP j hj, oQ, okH_kept (fun k hk => n0 k (by omega)) oH⟩
theorem okA_S {t wi : Int} {q : Nat → Nat} {σ : Nat → Nat → Int} {r : Nat → Int} (h : okA t wi q σ) (hr : okS t r) (h5 : r 5 = σ 0 5) : okA t wi q (upR σ 0 r) := by
  obtain ⟨oS, oW, oC, oZ, oM, oL, oP, oQ, oH⟩ := h
  have n0 : ∀ k, k ≠ 0 → upR σ 0 r k = σ k := fun k hk => upR_n hk
  refine ⟨by rw [upR_s]; exact hr, by rw [n0 1 (by omega)]; exact oW, fun j hj => by rw [upR_s, h5, n0 _ (by omega)]; exact oC j hj, fun j hj => by rw [n0 _ (by omega)]; exact oZ j hj, fun j hj => by rw [n0 _ (by omega)]; exact oM j hj, by rw [n0 20 (by omega)]; exact oL, fun j hj => by rw [n0 _ (by omega)]; exact oP j hj, oQ, okH_kept (fun k hk => n0 k (by omega)) oH⟩
theorem okA_Z {t wi : Int} {q : Nat → Nat} {σ : Nat → Nat → Int} {i : Nat} {r : Nat → Int} (h : okA t wi q σ) (hi : i < 6) (hr : okZ r) : okA t wi q (upR σ (7 + i) r) := by
  obtain ⟨oS, oW, oC, oZ, oM, oL, oP, oQ, oH⟩ := h
  have n0 : ∀ k, k ≠ 7 + i → upR σ (7 + i) r k = σ k := fun k hk => upR_n hk
  refine ⟨by rw [n0 0 (by omega)]; exact oS, by rw [n0 1 (by omega)]; exact oW, fun j hj => by rw [n0 0 (by omega), n0 _ (by omega)]; exact oC j hj, fun j hj => ?_, fun j hj => by rw [n0 _ (by omega)]; exact oM j hj, by rw [n0 20 (by omega)]; exact oL, fun j hj => by rw [n0 _ (by omega)]; exact oP j hj, oQ, okH_kept (fun k hk => n0 k (by omega)) oH⟩
  by_cases e : j = i
  · subst e
    rw [upR_s]
    exact hr
  · rw [n0 _ (by omega)]
    exact oZ j hj
theorem okA_M {t wi : Int} {q : Nat → Nat} {σ : Nat → Nat → Int} {i : Nat} {r : Nat → Int} (h : okA t wi q σ) (hi : i < 6) (hr : okM r) : okA t wi q (upR σ (14 + i) r) := by
  obtain ⟨oS, oW, oC, oZ, oM, oL, oP, oQ, oH⟩ := h
  have n0 : ∀ k, k ≠ 14 + i → upR σ (14 + i) r k = σ k := fun k hk => upR_n hk
  refine ⟨by rw [n0 0 (by omega)]; exact oS, by rw [n0 1 (by omega)]; exact oW, fun j hj => by rw [n0 0 (by omega), n0 _ (by omega)]; exact oC j hj, fun j hj => by rw [n0 _ (by omega)]; exact oZ j hj, fun j hj => ?_, by rw [n0 20 (by omega)]; exact oL, fun j hj => by rw [n0 _ (by omega)]; exact oP j hj, oQ, okH_kept (fun k hk => n0 k (by omega)) oH⟩
  by_cases e : j = i
  · subst e
    rw [upR_s]
    exact hr
  · rw [n0 _ (by omega)]
    exact oM j hj
theorem okA_mono {t t' wi : Int} {q : Nat → Nat} {σ : Nat → Nat → Int} (h : okA t wi q σ) (ht : t ≤ t') (h2 : t' ≤ 1000000) : okA t' wi q σ := by
  obtain ⟨oS, oW, oC, oZ, oM, oL, oP, oQ, oH⟩ := h
  refine ⟨?_, oW, fun j hj => ?_, oZ, oM, ?_, oP, oQ, oH⟩
  · unfold okS at oS ⊢
    omega
  · have h1 := oC j hj
    unfold okC at h1 ⊢
    omega
  · unfold okL at oL ⊢
    omega
theorem okA_wi {t wi wi' : Int} {q : Nat → Nat} {σ : Nat → Nat → Int} (h : okA t wi q σ) (hw : ∀ i : Nat, i < 3 → (i : Int) < σ 0 5 → 12 < wi' → σ (3 + i) 5 = 0) : okA t wi' q σ := by
  obtain ⟨oS, oW, oC, oZ, oM, oL, oP, oQ, oH⟩ := h
  refine ⟨oS, oW, fun j hj => ?_, oZ, oM, oL, oP, oQ, oH⟩
  have h1 := oC j hj
  have h2 := hw j hj
  unfold okC at h1 ⊢
  refine ⟨h1.1, h1.2.1, h1.2.2.1, h1.2.2.2.1, h1.2.2.2.2.1, h1.2.2.2.2.2.1, h1.2.2.2.2.2.2.1, h1.2.2.2.2.2.2.2.1, h1.2.2.2.2.2.2.2.2.1, fun hc => ?_⟩
  have h3 := h1.2.2.2.2.2.2.2.2.2 hc
  exact ⟨h3.1, h3.2.1, h3.2.2.1, h3.2.2.2.1, h3.2.2.2.2.1, h2 hc⟩
/-- a page that is written -/
theorem okA_write {t wi : Int} {q : Nat → Nat} {σ : Nat → Nat → Int} {n : Nat} {rP rL : Nat → Int} (h : okA t wi q σ) (hn : (n : Int) = σ 20 1) (h40 : n < 40) (hP : okP rP) (hs : rP 5 = sealB rP (σ 20 3)) (h1 : rL 1 = σ 20 1 + 1) (h2 : rL 2 = σ 20 2 + 1) (h3 : rL 3 = rP 5) : okA t wi q (upR (upR σ (22 + q n) rP) 20 rL) := by
  obtain ⟨oS, oW, oC, oZ, oM, oL, oP, oQ, oH⟩ := h
  have hq := oQ.1 n h40
  have n0 : ∀ k, k ≠ 20 → k ≠ 22 + q n → upR (upR σ (22 + q n) rP) 20 rL k = σ k := fun k hk hk2 => by rw [upR_n hk, upR_n hk2]
  have nP : upR (upR σ (22 + q n) rP) 20 rL (22 + q n) = rP := by rw [upR_n (by omega), upR_s]
  refine ⟨by rw [n0 0 (by omega) (by omega)]; exact oS, by rw [n0 1 (by omega) (by omega)]; exact oW, fun j hj => by rw [n0 0 (by omega) (by omega), n0 _ (by omega) (by omega)]; exact oC j hj, fun j hj => by rw [n0 _ (by omega) (by omega)]; exact oZ j hj, fun j hj => by rw [n0 _ (by omega) (by omega)]; exact oM j hj, ?_, fun j hj => ?_, oQ, fun e => ?_⟩
  · rw [upR_s]
    unfold okL at oL ⊢
    have h5 : 0 ≤ rP 5 ∧ rP 5 ≤ 9972 := by
      unfold okP at hP
      omega
    omega
  · by_cases e : j = q n
    · rw [e, nP]
      exact hP
    · rw [n0 _ (by omega) (by omega)]
      exact oP j hj
  · rw [upR_s] at e ⊢
    obtain ⟨c1, c2⟩ := oH (by omega)
    have hpre : ∀ i, i < n → upR (upR σ (22 + q n) rP) 20 rL (22 + q i) = σ (22 + q i) := fun i hi => n0 _ (by omega) (fun z => by
      have := oQ.2 i n (by omega) h40 (by omega)
      omega)
    refine ⟨fun i hi => ?_, ?_⟩
    · by_cases ei : i = n
      · subst ei
        rw [nP, lastS_kept _ (fun j hj => hpre j hj), hs, c2]
        congr 2
        omega
      · rw [hpre i (by omega), lastS_kept _ (fun j hj => hpre j (by omega))]
        exact c1 i (by omega)
    · rw [h3, show (rL 1).toNat = n + 1 by omega]
      show rP 5 = upR (upR σ (22 + q n) rP) 20 rL (22 + q n) 5
      rw [nP]
/-- behind a page that was to be written: the rest of the site, and the page -/
def WrP (q : Nat → Nat) (σ τ : Nat → Nat → Int) (kind crane load verdict least : Int) : Prop := (∀ k, k < 20 → τ k = σ k) ∧ ((σ 20 1 < 40 ∧ τ 20 1 = σ 20 1 + 1 ∧ τ 20 2 = σ 20 2 + 1 ∧ τ (22 + q (σ 20 1).toNat) 0 = kind ∧ τ (22 + q (σ 20 1).toNat) 1 = crane ∧ τ (22 + q (σ 20 1).toNat) 3 = load ∧ τ (22 + q (σ 20 1).toNat) 4 = verdict ∧ τ (22 + q (σ 20 1).toNat) 6 = least) ∨ (40 ≤ σ 20 1 ∧ τ = σ))
theorem WrP.ev {q : Nat → Nat} {σ τ : Nat → Nat → Int} {kind crane load verdict least : Int} (h : WrP q σ τ kind crane load verdict least) : Ev σ τ := by
  obtain ⟨h1, h2⟩ := h
  have e0 := h1 0 (by omega)
  have e1 := h1 1 (by omega)
  have e3 : ∀ i, i < 3 → τ (3 + i) = σ (3 + i) := fun i hi => h1 _ (by omega)
  unfold Ev
  rw [e0, e1]
  refine ⟨Int.le_refl _, Int.le_refl _, ?_, Int.le_refl _, Int.le_refl _, fun i hi => by rw [e3 i hi]; exact Int.le_refl _, ?_⟩
  · rcases h2 with h2 | ⟨-, rfl⟩
    · omega
    · exact Int.le_refl _
  · rcases h2 with h2 | ⟨-, rfl⟩
    · omega
    · exact Int.le_refl _
theorem Ev_C {σ : Nat → Nat → Int} {i : Nat} {r : Nat → Int} (hi : i < 3) (h : σ (3 + i) 11 ≤ r 11) : Ev σ (upR σ (3 + i) r) := by
  unfold Ev
  have n0 : ∀ k, k ≠ 3 + i → upR σ (3 + i) r k = σ k := fun k hk => upR_n hk
  rw [n0 0 (by omega), n0 1 (by omega), n0 20 (by omega)]
  refine ⟨Int.le_refl _, Int.le_refl _, Int.le_refl _, Int.le_refl _, Int.le_refl _, fun j hj => ?_, Int.le_refl _⟩
  by_cases e : j = i
  · subst e
    rw [upR_s]
    exact h
  · rw [n0 _ (by omega)]
    exact Int.le_refl _
theorem Ev_W {σ : Nat → Nat → Int} {r : Nat → Int} (h0 : σ 1 0 ≤ r 0) (h6 : σ 1 6 ≤ r 6) : Ev σ (upR σ 1 r) := by
  unfold Ev
  have n0 : ∀ k, k ≠ 1 → upR σ 1 r k = σ k := fun k hk => upR_n hk
  rw [n0 0 (by omega), n0 20 (by omega), upR_s]
  exact ⟨h0, h6, Int.le_refl _, Int.le_refl _, Int.le_refl _, fun j hj => by rw [n0 _ (by omega)]; exact Int.le_refl _, Int.le_refl _⟩
theorem Ev_S {σ : Nat → Nat → Int} {r : Nat → Int} (h8 : σ 0 8 ≤ r 8) (h5 : σ 0 5 ≤ r 5) : Ev σ (upR σ 0 r) := by
  unfold Ev
  have n0 : ∀ k, k ≠ 0 → upR σ 0 r k = σ k := fun k hk => upR_n hk
  rw [n0 1 (by omega), n0 20 (by omega), upR_s]
  exact ⟨Int.le_refl _, Int.le_refl _, Int.le_refl _, h8, h5, fun j hj => by rw [n0 _ (by omega)]; exact Int.le_refl _, Int.le_refl _⟩
theorem Ev_O {σ : Nat → Nat → Int} {k : Nat} {r : Nat → Int} (h : 7 ≤ k ∧ k < 20) : Ev σ (upR σ k r) := by
  unfold Ev
  have n0 : ∀ j, j ≠ k → upR σ k r j = σ j := fun j hj => upR_n hj
  rw [n0 0 (by omega), n0 1 (by omega), n0 20 (by omega)]
  exact ⟨Int.le_refl _, Int.le_refl _, Int.le_refl _, Int.le_refl _, Int.le_refl _, fun j hj => by rw [n0 _ (by omega)]; exact Int.le_refl _, Int.le_refl _⟩
