/-! MORE THAT KEEPS A SITE'S ORDER: a crane that comes, a page that is torn out; the order of the pages is written -/
theorem okA_crane {t wi : Int} {q : Nat → Nat} {σ : Nat → Nat → Int} {n : Nat} {rS r : Nat → Int} (h : okA t wi q σ) (hn : (n : Int) = σ 0 5) (h3 : n < 3) (hS : okS t rS) (h5 : rS 5 = σ 0 5 + 1) (hr : okC t n (σ 0 5 + 1) wi r) : okA t wi q (upR (upR σ 0 rS) (3 + n) r) := by
  obtain ⟨oS, oW, oC, oZ, oM, oL, oP, oQ, oH⟩ := h
  have n0 : ∀ k, k ≠ 0 → k ≠ 3 + n → upR (upR σ 0 rS) (3 + n) r k = σ k := fun k hk hk2 => by rw [upR_n hk2, upR_n hk]
  have nS : upR (upR σ 0 rS) (3 + n) r 0 = rS := by rw [upR_n (by omega), upR_s]
  refine ⟨by rw [nS]; exact hS, by rw [n0 1 (by omega) (by omega)]; exact oW, fun j hj => ?_, fun j hj => by rw [n0 _ (by omega) (by omega)]; exact oZ j hj, fun j hj => by rw [n0 _ (by omega) (by omega)]; exact oM j hj, by rw [n0 20 (by omega) (by omega)]; exact oL, fun j hj => by rw [n0 _ (by omega) (by omega)]; exact oP j hj, oQ, okH_kept (fun k hk => n0 k (by omega) (by omega)) oH⟩
  rw [nS, h5]
  by_cases e : j = n
  · subst e
    rw [upR_s]
    exact hr
  · rw [n0 _ (by omega) (by omega)]
    have h1 := oC j hj
    unfold okC at h1 ⊢
    refine ⟨h1.1, h1.2.1, h1.2.2.1, h1.2.2.2.1, h1.2.2.2.2.1, h1.2.2.2.2.2.1, h1.2.2.2.2.2.2.1, h1.2.2.2.2.2.2.2.1, h1.2.2.2.2.2.2.2.2.1, fun hc => h1.2.2.2.2.2.2.2.2.2 (by omega)⟩
theorem okA_tear {t wi : Int} {q q1 : Nat → Nat} {σ : Nat → Nat → Int} (h : okA t wi q σ) (hq : okQ q1) (h0 : 0 < σ 20 1) (ht : t < 1000000) : okA (t + 1) wi q1 (up2 σ 20 1 (σ 20 1 - 1)) := by
  obtain ⟨oS, oW, oC, oZ, oM, oL, oP, oQ, oH⟩ := okA_mono h (show t ≤ t + 1 by omega) (by omega)
  have n0 : ∀ k, k ≠ 20 → up2 σ 20 1 (σ 20 1 - 1) k = σ k := fun k hk => up2_n hk
  have oL0 := h.2.2.2.2.2.1
  unfold okL at oL0
  refine ⟨by rw [n0 0 (by omega)]; exact oS, by rw [n0 1 (by omega)]; exact oW, fun j hj => by rw [n0 0 (by omega), n0 _ (by omega)]; exact oC j hj, fun j hj => by rw [n0 _ (by omega)]; exact oZ j hj, fun j hj => by rw [n0 _ (by omega)]; exact oM j hj, ?_, fun j hj => by rw [n0 _ (by omega)]; exact oP j hj, hq, fun e => ?_⟩
  · rw [up2_s]
    show 0 ≤ σ 20 1 - 1 ∧ σ 20 1 - 1 ≤ 40 ∧ σ 20 1 - 1 ≤ σ 20 2 ∧ σ 20 2 - (σ 20 1 - 1) ≤ t + 1 ∧ 0 ≤ σ 20 3 ∧ σ 20 3 ≤ 9972
    omega
  · rw [up2_s] at e
    have e : σ 20 1 - 1 = σ 20 2 := e
    omega
theorem Ev_tear {σ : Nat → Nat → Int} : Ev σ (up2 σ 20 1 (σ 20 1 - 1)) := by
  have n0 : ∀ k, k ≠ 20 → up2 σ 20 1 (σ 20 1 - 1) k = σ k := fun k hk => up2_n hk
  unfold Ev
  rw [n0 0 (by omega), n0 1 (by omega), up2_s]
  refine ⟨Int.le_refl _, Int.le_refl _, Int.le_refl _, Int.le_refl _, Int.le_refl _, fun j hj => by rw [n0 _ (by omega)]; exact Int.le_refl _, ?_⟩
  show σ 20 2 - σ 20 1 ≤ σ 20 2 - (σ 20 1 - 1)
  omega
theorem okQ_tear {q ρ : Nat → Nat} {n c : Nat} (hq : okQ q) (hn : n < c) (hc : c ≤ 40) (h1 : ∀ j, j < n → ρ j = q j) (h2 : ∀ j, n ≤ j → j < c - 1 → ρ j = q (j + 1)) (h3 : ∀ j, c - 1 ≤ j → j < 40 → ρ j = q j) : okQ (va_up ρ (c - 1) (q n)) := by
  have f : ∀ j, j < 40 → ∃ k, k < 40 ∧ va_up ρ (c - 1) (q n) j = q k ∧ ((j = c - 1 ∧ k = n) ∨ (j ≠ c - 1 ∧ n ≤ j ∧ j < c - 1 ∧ k = j + 1) ∨ (j ≠ c - 1 ∧ ¬ (n ≤ j ∧ j < c - 1) ∧ k = j)) := by
    intro j hj
    by_cases e : j = c - 1
    · exact ⟨n, by omega, by rw [e, va_up_self], Or.inl ⟨e, rfl⟩⟩
    · by_cases e2 : n ≤ j ∧ j < c - 1
      · exact ⟨j + 1, by omega, by rw [va_up_ne _ _ e, h2 j e2.1 e2.2], Or.inr (Or.inl ⟨e, e2.1, e2.2, rfl⟩)⟩
      · refine ⟨j, hj, ?_, Or.inr (Or.inr ⟨e, e2, rfl⟩)⟩
        rw [va_up_ne _ _ e]
        rcases Nat.lt_or_ge j n with h | h
        · exact h1 j h
        · exact h3 j (by omega) hj
  refine ⟨fun j hj => ?_, fun i j hi hj e => ?_⟩
  · obtain ⟨k, hk, ek, -⟩ := f j hj
    rw [ek]
    exact hq.1 k hk
  · obtain ⟨k1, hk1, ek1, c1⟩ := f i hi
    obtain ⟨k2, hk2, ek2, c2⟩ := f j hj
    rw [ek1, ek2] at e
    have := hq.2 k1 k2 hk1 hk2 e
    omega
section ZP
variable {p : Program} {l : Launch} {e : Env} {R : Room} {s : State} {m : MethodId} {args : Array Value} {below : List Frame} {meth : Method} {c : Code} {H H0 : Heap} {locs : List Loc} {cells slots : Nat} {Q : State → Prop} {cc : ByteArray} {pc : Nat} {ls : Array Slot} {rest : List Value} {D : va_G} {cy : Nat → ClassId} {a q : Nat → Nat} {σ : Nat → Nat → Int} {X : va_W} {A : Nat → Prop}
theorem z_past (hx : p.tables.exec = Jvm.exec) (hb : c.code = cc) (hK : va_K D vwCl (wty cy) s) (hP : va_P D vwCl (wld cy a q σ ++ X) H) (hD : va_D A (wld cy a q σ ++ X)) (hS : va_S A H0 H locs) {z : Int} {j v : Nat} (hz : z = j) (hj : j < 40) (hv : v < 40) (hdg : decode cc pc = .ok (.aastore, 1))
    (kk : ∀ (H1 : Heap) (locs1 : List Loc), va_P D vwCl (wld cy a (va_up q j v) σ ++ X) H1 → va_D A (wld cy a (va_up q j v) σ ++ X) → va_S A H0 H1 locs1 → W p l e R s m args below meth c H1 locs1 cells slots Q (F0 m (pc + 1) ls rest)) : W p l e R s m args below meth c H locs cells slots Q (F0 m pc ls (.ref (a (22 + v)) :: .int (zI z) :: .ref (a 21) :: rest)) := by
  subst hz
  have e0 : (zI (j : Int)).toNatClampNeg = j := by rw [zI_clamp (by omega) ⟨by omega, by omega⟩, Int.toNat_natCast]
  refine va_astq hx hb hK hP hD hS 21 3 (22 + v) 5 wg_AP rfl (wg_P hv) rfl (zI_in (by omega) (by omega) (by omega)) hdg (fun H1 locs1 h1 h2 h3 => kk H1 locs1 ?_ ?_ h3)
  · rw [e0, wld_upq] at h1
    exact h1
  · rw [e0, wld_upq] at h2
    exact h2
end ZP
section ZX
variable {p : Program} {l : Launch} {e : Env} {R : Room} {s : State} {m : MethodId} {args : Array Value} {below : List Frame} {meth : Method} {c : Code} {H : Heap} {locs : List Loc} {cells slots : Nat} {Q : State → Prop}
variable {mc ms : Nat} {free : Addr → Prop} {A0 A1 : Nat → Prop} {H0 : Heap} {a : Array Value} {pc : Nat} {ls : Array Slot} {st0 rest : List Value}
/-- a call that answers a reference, or throws -/
theorem vx_callr {S SX : Type} {post : S → Prop} {px : SX → Prop} {B : S → Nat → State → Prop} {BX : String → SX → State → Prop} {AX : Nat → Prop} (hr : vx_Run p l e R s m args below meth c H locs cells slots mc ms (F0 m pc ls st0) rest (va_Qr post B A1 a) (vx_X px BX AX) free) (hS : va_S A0 H0 H locs) (hA : ∀ q, q < H.size → A1 q → A0 q) (hf : ∀ q, free q → A0 q) (hAX : ∀ q, q < H.size → AX q → A0 q)
    (kx : ∀ (E : String) (ce : Cell) (q9 : Addr) (u : SX) (t : State) (H1 : Heap) (locs1 : List Loc), t.heap = H1 → s.vm.Alike t.vm → px u → BX E u t → H.size ≤ H1.size → (∀ q : Nat, q < H.size → ¬ AX q → H1[q]? = H[q]?) → va_S A0 H0 H1 locs1 → H1[q9]? = some ce → ce.vm = .none → s.vm.findClass E = some ce.cls → vx_W p l e R s m args below meth c H1 locs1 (cells + mc) (slots + ms) Q (F0 m pc ls rest) q9)
    (kk : ∀ (u : S) (ra : Nat) (t : State) (H1 : Heap) (locs1 : List Loc), t.heap = H1 → s.vm.Alike t.vm → post u → B u ra t → H.size ≤ H1.size → (∀ q : Nat, q < H.size → ¬ A1 q → H1[q]? = H[q]?) → va_S A0 H0 H1 locs1 → W p l e R s m args below meth c H1 locs1 (cells + mc) (slots + ms) Q (F0 m (pc + 3) ls (.ref ra :: rest))) : W p l e R s m args below meth c H locs cells slots Q (F0 m pc ls st0) := by
  intro T hT X
  rcases hr T hT X with ⟨v, st₀, t, T', L, h0, X', hL, e1, e2, ⟨⟨u, ra, hv, hp, hb⟩, hF⟩, st⟩ | ⟨q, st₀, t, T', L, E, ce, h0, X', hL, e1, e2, ⟨u, hp, hb, hF⟩, hce, hcv, hcl, st⟩
  · cases hv
    obtain ⟨k1, k2, k3⟩ := vx_keep h0 e1 hS hA hf hL hF
    obtain ⟨t2, a1, b1⟩ := kk u ra t T'.heap (locs ++ L) e1.symm (by rw [← e2]; exact X'.warmed.alike) hp hb k1 k2 k3 T' rfl X'
    exact ⟨t2, st t2 a1, b1⟩
  · obtain ⟨k1, k2, k3⟩ := vx_keep h0 e1 hS hAX hf hL hF
    obtain ⟨t2, a1, b1⟩ := kx E ce q u t T'.heap (locs ++ L) e1.symm (by rw [← e2]; exact X'.warmed.alike) hp hb k1 k2 k3 (by rw [e1]; exact hce) hcv hcl T' rfl X'
    exact ⟨t2, st.trans a1, b1⟩
end ZX
