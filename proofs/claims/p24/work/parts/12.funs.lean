/-! WHAT THE SITE'S METHODS ANSWER, as functions of its rows; and what holds of a site between two calls -/
def fT (v : Int × Int × Int) : List Value := [.int (zI v.1), .int (zI v.2.1), .int (zI v.2.2)]
def mxI (x y : Int) : Int := if x < y then y else x
def mnI (x y : Int) : Int := if y < x then y else x
def abI (x : Int) : Int := if 0 ≤ x then x else -x
theorem zmax {x y : Int} (hx : rg x) (hy : rg y) : (if zI x < zI y then zI y else zI x) = zI (mxI x y) := by
  unfold mxI
  by_cases h : x < y
  · rw [if_pos h, if_pos ((zI_lt hx hy).mpr h)]
  · rw [if_neg h, if_neg (fun z => h ((zI_lt hx hy).mp z))]
theorem zmin {x y : Int} (hx : rg x) (hy : rg y) : (if zI y < zI x then zI y else zI x) = zI (mnI x y) := by
  unfold mnI
  by_cases h : y < x
  · rw [if_pos h, if_pos ((zI_lt hy hx).mpr h)]
  · rw [if_neg h, if_neg (fun z => h ((zI_lt hy hx).mp z))]
theorem zabs {x : Int} (hx : rg x) : (if 0 ≤ zI x then zI x else 0 - zI x) = zI (abI x) := by
  unfold abI
  by_cases h : 0 ≤ x
  · rw [if_pos h, if_pos (by rw [← zI_0, zI_le (by omega) hx]; exact h)]
  · rw [if_neg h, if_neg (fun z => h (by rwa [← zI_0, zI_le (by omega) hx] at z)), ← zI_0, zI_sub]
    congr 1
    omega
theorem mxI_rg {x y : Int} (h1 : rg x) (h2 : rg y) : rg (mxI x y) := by unfold mxI; split <;> assumption
theorem mnI_rg {x y : Int} (h1 : rg x) (h2 : rg y) : rg (mnI x y) := by unfold mnI; split <;> assumption
theorem msb_key (z : Int32) : 0 ≤ z ↔ z.toBitVec.msb = false := by
  rw [Int32.le_iff_toInt_le, Int32.toInt_zero, BitVec.msb_eq_toInt, decide_eq_false_iff_not]
  show 0 ≤ z.toBitVec.toInt ↔ _
  omega
theorem zI_xor_sign {x y : Int} (hx : rg x) (hy : rg y) (h : 0 < y) : 0 ≤ zI x ^^^ zI y ↔ 0 ≤ x := by
  have e : (zI y).toBitVec.msb = false := (msb_key _).mp (by rw [← zI_0, zI_le (by omega) hy]; omega)
  rw [msb_key, Int32.toBitVec_xor, BitVec.msb_xor, e, Bool.xor_false, ← msb_key, ← zI_0, zI_le (by omega) hx]
theorem mul_bound {d k m n : Int} (h1 : 0 ≤ d) (h2 : d ≤ m) (h3 : 0 ≤ k) (h4 : k ≤ n) : 0 ≤ d * k ∧ d * k ≤ m * n :=
  ⟨Int.mul_nonneg h1 h3, Int.mul_le_mul h2 h4 h3 (by omega)⟩
/-- the steps by the shorter way; the next angle on it -/
def stF (f t : Int) : Int := mnI ((t - f) % 24) (24 - (t - f) % 24)
def anF (f t : Int) : Int := if (t - f) % 24 = 0 then f else if (t - f) % 24 ≤ 24 - (t - f) % 24 then (f + 1) % 24 else (f + -1) % 24
def tlF (r : Nat → Int) (n : Int) : Int := if n = 1 then r 6 else if n = 2 then r 7 else if n = 3 then r 8 else r 9
def cpL (r : Nat → Int) (d : Int) : Int := tlF r (d / 10) - ((tlF r (d / 10) - tlF r (d / 10 + 1)) * (d % 10) + 9) / 10
def cpM (r : Nat → Int) (d : Int) : Int := if r 2 = 4 then 2 * cpL r d - 5 else cpL r d
def cpF (r : Nat → Int) (d w : Int) : Int := mxI (if 8 < w then cpM r d - (w - 8) else cpM r d) 0
def hrF (r : Nat → Int) : Int := r 0 / 60 % 24
def sealB (r : Nat → Int) (ah : Int) : Int := (31 * ah + 7 * r 0 + 5 * r 1 + 3 * r 2 + r 3 + 11 * r 4) % 9973
def shP (r : Nat → Int) (h : Int) : Prop := r 3 ≤ h ∧ h < r 4
def hoP (r : Nat → Int) (d : Int) : Prop := (d - r 1) % 24 ≤ (r 2 - r 1) % 24
def meP (r : Nat → Int) (c h c2 h2 : Int) : Prop := (r 0 = c ∧ r 1 = h ∧ r 2 = c2 ∧ r 3 = h2) ∨ (r 0 = c2 ∧ r 1 = h2 ∧ r 2 = c ∧ r 3 = h)
def zoP (σ : Nat → Nat → Int) (c hd : Int) : Prop := ∃ j : Nat, (j : Int) < σ 0 6 ∧ σ (7 + j) 0 = c ∧ shP (σ (7 + j)) (hrF (σ 1)) ∧ hoP (σ (7 + j)) hd
def clP (σ : Nat → Nat → Int) (c hd : Int) : Prop := ∃ j k : Nat, (j : Int) < σ 0 7 ∧ (k : Int) < σ 0 5 ∧ meP (σ (14 + j)) c hd k (σ (3 + k) 3)
/-- what holds of a site: t bounds the calls that were made, wi is the wind by which the jibs stand -/
def okT (r : Nat → Int) : Prop := 0 ≤ r 9 ∧ r 9 ≤ r 8 ∧ r 8 ≤ r 7 ∧ r 7 ≤ r 6 ∧ r 6 ≤ 99
def okS (t : Int) (r : Nat → Int) : Prop := 0 ≤ r 5 ∧ r 5 ≤ 3 ∧ 0 ≤ r 6 ∧ r 6 ≤ 6 ∧ 0 ≤ r 7 ∧ r 7 ≤ 6 ∧ 0 ≤ r 8 ∧ r 8 ≤ t ∧ 0 ≤ t ∧ t ≤ 1000000
def okW (r : Nat → Int) : Prop := 0 ≤ r 0 ∧ r 0 ≤ 9999 ∧ 0 ≤ r 1 ∧ r 1 ≤ 1023 ∧ 0 ≤ r 2 ∧ r 2 ≤ 30 ∧ 0 ≤ r 3 ∧ r 3 ≤ 10 ∧ 0 ≤ r 4 ∧ r 4 ≤ 23 ∧ 0 ≤ r 5 ∧ r 5 ≤ 41 ∧ 0 ≤ r 6 ∧ r 6 ≤ r 0
def okC (t : Int) (i : Nat) (cc wi : Int) (r : Nat → Int) : Prop := r 0 = i ∧ 0 ≤ r 3 ∧ r 3 ≤ 23 ∧ (r 5 = 0 ∨ r 5 = 1) ∧ (0 ≤ r 9 ∧ r 9 ≤ r 8 ∧ r 8 ≤ r 7 ∧ r 7 ≤ r 6 ∧ r 6 ≤ 99) ∧ 0 ≤ r 10 ∧ r 10 ≤ 1000 ∧ 0 ≤ r 11 ∧ r 11 ≤ t ∧ ((i : Int) < cc → 10 ≤ r 1 ∧ r 1 ≤ 40 ∧ (r 2 = 2 ∨ r 2 = 4) ∧ 10 ≤ r 4 ∧ r 4 ≤ r 1 ∧ (12 < wi → r 5 = 0))
def okZ (r : Nat → Int) : Prop := 0 ≤ r 0 ∧ r 0 ≤ 24 ∧ 0 ≤ r 1 ∧ r 1 ≤ 24 ∧ 0 ≤ r 2 ∧ r 2 ≤ 24 ∧ 0 ≤ r 3 ∧ r 3 ≤ 24 ∧ 0 ≤ r 4 ∧ r 4 ≤ 24
def okM (r : Nat → Int) : Prop := 0 ≤ r 0 ∧ r 0 ≤ 24 ∧ 0 ≤ r 1 ∧ r 1 ≤ 24 ∧ 0 ≤ r 2 ∧ r 2 ≤ 24 ∧ 0 ≤ r 3 ∧ r 3 ≤ 24
def okL (t : Int) (r : Nat → Int) : Prop := 0 ≤ r 1 ∧ r 1 ≤ 40 ∧ r 1 ≤ r 2 ∧ r 2 - r 1 ≤ t ∧ 0 ≤ r 3 ∧ r 3 ≤ 9972
def okP (r : Nat → Int) : Prop := 0 ≤ r 0 ∧ r 0 ≤ 4 ∧ 0 ≤ r 1 ∧ r 1 ≤ 2 ∧ 0 ≤ r 2 ∧ r 2 ≤ 41 ∧ 0 ≤ r 3 ∧ r 3 ≤ 199 ∧ 0 ≤ r 4 ∧ r 4 ≤ 5 ∧ 0 ≤ r 5 ∧ r 5 ≤ 9972 ∧ -1 ≤ r 6 ∧ r 6 ≤ 1000 ∧ (r 0 = 0 → r 4 = 0 → r 3 ≤ r 6)
def okQ (q : Nat → Nat) : Prop := (∀ i, i < 40 → q i < 40) ∧ ∀ i j, i < 40 → j < 40 → q i = q j → i = j
def lastS (q : Nat → Nat) (σ : Nat → Nat → Int) : Nat → Int
  | 0 => 1
  | n + 1 => σ (22 + q n) 5
def okH (q : Nat → Nat) (σ : Nat → Nat → Int) : Prop := σ 20 1 = σ 20 2 → (∀ i : Nat, (i : Int) < σ 20 1 → σ (22 + q i) 5 = sealB (σ (22 + q i)) (lastS q σ i)) ∧ σ 20 3 = lastS q σ (σ 20 1).toNat
def okA (t wi : Int) (q : Nat → Nat) (σ : Nat → Nat → Int) : Prop := okS t (σ 0) ∧ okW (σ 1) ∧ (∀ i, i < 3 → okC t i (σ 0 5) wi (σ (3 + i))) ∧ (∀ i, i < 6 → okZ (σ (7 + i))) ∧ (∀ i, i < 6 → okM (σ (14 + i))) ∧ okL t (σ 20) ∧ (∀ i, i < 40 → okP (σ (22 + i))) ∧ okQ q ∧ okH q σ
/-- what no call of the site takes back -/
def Ev (σ τ : Nat → Nat → Int) : Prop := σ 1 0 ≤ τ 1 0 ∧ σ 1 6 ≤ τ 1 6 ∧ σ 20 2 ≤ τ 20 2 ∧ σ 0 8 ≤ τ 0 8 ∧ σ 0 5 ≤ τ 0 5 ∧ (∀ i, i < 3 → σ (3 + i) 11 ≤ τ (3 + i) 11) ∧ σ 20 2 - σ 20 1 ≤ τ 20 2 - τ 20 1
theorem Ev.rf (σ : Nat → Nat → Int) : Ev σ σ := ⟨Int.le_refl _, Int.le_refl _, Int.le_refl _, Int.le_refl _, Int.le_refl _, fun _ _ => Int.le_refl _, Int.le_refl _⟩
theorem Ev.tr {σ τ υ : Nat → Nat → Int} (h : Ev σ τ) (k : Ev τ υ) : Ev σ υ := ⟨Int.le_trans h.1 k.1, Int.le_trans h.2.1 k.2.1, Int.le_trans h.2.2.1 k.2.2.1, Int.le_trans h.2.2.2.1 k.2.2.2.1, Int.le_trans h.2.2.2.2.1 k.2.2.2.2.1, fun i hi => Int.le_trans (h.2.2.2.2.2.1 i hi) (k.2.2.2.2.2.1 i hi), Int.le_trans h.2.2.2.2.2.2 k.2.2.2.2.2.2⟩
theorem tlF_b {r : Nat → Int} (h : 0 ≤ r 9 ∧ r 9 ≤ r 8 ∧ r 8 ≤ r 7 ∧ r 7 ≤ r 6 ∧ r 6 ≤ 99) (n : Int) (hn : 1 ≤ n) : 0 ≤ tlF r n ∧ tlF r n ≤ 99 ∧ tlF r (n + 1) ≤ tlF r n ∧ 0 ≤ tlF r (n + 1) := by
  unfold tlF
  repeat' split
  all_goals omega
theorem cpL_b {r : Nat → Int} (h : 0 ≤ r 9 ∧ r 9 ≤ r 8 ∧ r 8 ≤ r 7 ∧ r 7 ≤ r 6 ∧ r 6 ≤ 99) (d : Int) (hd : 10 ≤ d) : 0 ≤ (tlF r (d / 10) - tlF r (d / 10 + 1)) * (d % 10) ∧ (tlF r (d / 10) - tlF r (d / 10 + 1)) * (d % 10) ≤ 891 ∧ -90 ≤ cpL r d ∧ cpL r d ≤ 99 := by
  have h1 := tlF_b h (d / 10) (by omega)
  have h2 := mul_bound (d := tlF r (d / 10) - tlF r (d / 10 + 1)) (k := d % 10) (m := 99) (n := 9) (by omega) (by omega) (by omega) (by omega)
  unfold cpL
  omega
theorem cpF_b {r : Nat → Int} (h : 0 ≤ r 9 ∧ r 9 ≤ r 8 ∧ r 8 ≤ r 7 ∧ r 7 ≤ r 6 ∧ r 6 ≤ 99) (d w : Int) (hd : 10 ≤ d) (hw : 0 ≤ w) : 0 ≤ cpF r d w ∧ cpF r d w ≤ 200 := by
  have h1 := cpL_b h d hd
  unfold cpF cpM mxI
  repeat' split
  all_goals omega
theorem stF_b (f t : Int) : 0 ≤ stF f t ∧ stF f t ≤ 12 := by
  unfold stF mnI
  split <;> omega
theorem anF_b {f t : Int} (h : 0 ≤ f ∧ f ≤ 23) : 0 ≤ anF f t ∧ anF f t ≤ 23 := by
  unfold anF
  repeat' split
  all_goals omega
def shN (σ : Nat → Nat → Int) : Nat → Int
  | 0 => 0
  | n + 1 => shN σ n + (if σ (7 + n) 3 ≤ hrF (σ 1) ∧ hrF (σ 1) < σ (7 + n) 4 then 1 else 0)
theorem shN_b (σ : Nat → Nat → Int) : ∀ n : Nat, 0 ≤ shN σ n ∧ shN σ n ≤ n
  | 0 => by unfold shN; omega
  | n + 1 => by
    have h := shN_b σ n
    unfold shN
    split <;> omega
noncomputable def vdF (σ : Nat → Nat → Int) (load cap c hd : Int) : Int := if cap < load then 3 else @ite _ (zoP σ c hd) (Classical.propDecidable _) 4 (@ite _ (clP σ c hd) (Classical.propDecidable _) 5 0)
theorem vdF_b (σ : Nat → Nat → Int) (load cap c hd : Int) : (vdF σ load cap c hd = 0 ∧ load ≤ cap) ∨ (3 ≤ vdF σ load cap c hd ∧ vdF σ load cap c hd ≤ 5) := by
  unfold vdF
  repeat' split
  all_goals omega
def faR (q : Nat → Nat) (σ : Nat → Nat → Int) : Nat → Nat → Int
  | 0, _ => -1
  | n + 1, i => if σ (22 + q i) 5 = sealB (σ (22 + q i)) (lastS q σ i) then faR q σ n (i + 1) else i
def faF (q : Nat → Nat) (σ : Nat → Nat → Int) : Int := faR q σ (σ 20 1).toNat 0
theorem faR_go {q : Nat → Nat} {σ : Nat → Nat → Int} {c i : Nat} (h : i < c) (e : σ (22 + q i) 5 = sealB (σ (22 + q i)) (lastS q σ i)) : faR q σ (c - i) i = faR q σ (c - (i + 1)) (i + 1) := by
  rw [show c - i = (c - (i + 1)) + 1 by omega]
  exact if_pos e
theorem faR_at {q : Nat → Nat} {σ : Nat → Nat → Int} {c i : Nat} (h : i < c) (e : ¬ σ (22 + q i) 5 = sealB (σ (22 + q i)) (lastS q σ i)) : faR q σ (c - i) i = i := by
  rw [show c - i = (c - (i + 1)) + 1 by omega]
  exact if_neg e
theorem faR_b (q : Nat → Nat) (σ : Nat → Nat → Int) : ∀ n i : Nat, -1 ≤ faR q σ n i ∧ faR q σ n i ≤ n + i
  | 0, i => by unfold faR; omega
  | n + 1, i => by
    have h := faR_b q σ n (i + 1)
    unfold faR
    split <;> omega
theorem faF_b {t wi : Int} {q : Nat → Nat} {σ : Nat → Nat → Int} (hO : okA t wi q σ) : -1 ≤ faF q σ ∧ faF q σ ≤ 40 := by
  obtain ⟨-, -, -, -, -, oL, -, -, -⟩ := hO
  unfold okL at oL
  have h := faR_b q σ (σ 20 1).toNat 0
  unfold faF
  omega
theorem faR_ok {q : Nat → Nat} {σ : Nat → Nat → Int} (c : Nat) (h : ∀ i : Nat, i < c → σ (22 + q i) 5 = sealB (σ (22 + q i)) (lastS q σ i)) : ∀ n i : Nat, i + n = c → faR q σ n i = -1
  | 0, i, _ => rfl
  | n + 1, i, e => by
    unfold faR
    rw [if_pos (h i (by omega))]
    exact faR_ok c h n (i + 1) (by omega)
/-- the log is whole as long as no page was torn out -/
theorem faF_whole {t wi : Int} {q : Nat → Nat} {σ : Nat → Nat → Int} (hO : okA t wi q σ) (h : σ 20 1 = σ 20 2) : faF q σ = -1 := by
  obtain ⟨-, -, -, -, -, oL, -, -, oH⟩ := hO
  unfold okL at oL
  have h1 := (oH h).1
  exact faR_ok (σ 20 1).toNat (fun i hi => h1 i (by omega)) (σ 20 1).toNat 0 (by omega)
theorem sealB_b (r : Nat → Int) (ah : Int) : 0 ≤ sealB r ah ∧ sealB r ah ≤ 9972 := by
  unfold sealB
  omega
