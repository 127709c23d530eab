/-! THE JDK'S WORLD: a list ws of cells; the statics that its code reads -/
abbrev jT : Type := ClassId × Nat × Nat × (Nat → Int32) × (Nat → Int32)
abbrev jF (f : Nat → Int32) : Prop := sb_Fit f
theorem jF_0 : jF (fun _ => 0) := sb_fit0
theorem jF_upd {f : Nat → Int32} (h : jF f) (i : Nat) (x : Int32) : jF (upd f i (vp_nar .byte x)) := sb_fitU h (by rw [vp_nar_byte]; exact pk_fb x)
def jZ (J : jT) (D : va_G) (A : Nat → Prop) (U : State) : Prop := va_K D vwCl [(J.1, .byte)] U ∧ va_Z "java/lang/String" "COMPACT_STRINGS" "Z" (.int (zI 1)) A U U.heap ∧ va_Z "java/lang/Integer" "DigitOnes" "[B" (.ref J.2.1) A U U.heap ∧ va_T .byte J.2.1 100 (fun j => .int (J.2.2.2.1 j)) A U U.heap ∧ va_Z "java/lang/Integer" "DigitTens" "[B" (.ref J.2.2.1) A U U.heap ∧ va_T .byte J.2.2.1 100 (fun j => .int (J.2.2.2.2 j)) A U U.heap
theorem jZ.mk {J : jT} {D : va_G} {A : Nat → Prop} {s U : State} {H : Heap} {locs : List Loc} (h : jZ J D A s) (hS : va_S A s.heap H locs) (hU : U.heap = H) (hW : s.WarmedH U.vm) : jZ J D A U := by
  subst hU
  obtain ⟨h1, h2, h3, h4, h5, h6⟩ := h
  have al := hW.alike
  exact ⟨h1.moved al, (h2.moved al).kept hS.2.1, (h3.moved al).kept hS.2.1, (h4.moved al).kept hS.2.1, (h5.moved al).kept hS.2.1, (h6.moved al).kept hS.2.1⟩
theorem jZ.narrow {J : jT} {D : va_G} {A B : Nat → Prop} {U : State} (h : jZ J D A U) (hB : ∀ q, B q → A q) : jZ J D B U := by
  obtain ⟨h1, h2, h3, h4, h5, h6⟩ := h
  exact ⟨h1, h2.narrow hB, h3.narrow hB, h4.narrow hB, h5.narrow hB, h6.narrow hB⟩
theorem jZ.calling {J : jT} {D : va_G} {A : Nat → Prop} {U : State} (h : jZ J D A U) (g : JFrame) (mk : MethodId) (v : Array Value) : jZ J D A (U.calling g mk v) := by
  obtain ⟨h1, h2, h3, h4, h5, h6⟩ := h
  have al : U.vm.Alike (U.calling g mk v).vm := Vm.Alike.refl U.vm
  exact ⟨h1.moved al, h2.moved al, h3.moved al, h4.moved al, h5.moved al, h6.moved al⟩
def jW (D : va_G) (J : jT) (A : Nat → Prop) (ws : va_W) (U : State) : Prop := va_P D vwCl ws U.heap ∧ va_D A ws ∧ jZ J D A U
theorem jW_mk {D : va_G} {J : jT} {A : Nat → Prop} {ws : va_W} {s U : State} {H : Heap} {locs : List Loc} (hP : va_P D vwCl ws H) (hD : va_D A ws) (hZ : jZ J D A s) (hS : va_S A s.heap H locs) (hU : U.heap = H) (hW : s.WarmedH U.vm) : jW D J A ws U := ⟨by rw [hU]; exact hP, hD, hZ.mk hS hU hW⟩
theorem jW_blind {D : va_G} {J : jT} {A : Nat → Prop} {ws : va_W} {av : List Value} {sz : Nat} : FrameBlind (va_Pc av (fun U => U.heap.size = sz ∧ jW D J A ws U)) := fun v U g mk h => ⟨h.1, h.2.1, h.2.2.1, h.2.2.2.1, h.2.2.2.2.calling g mk v⟩
theorem js_eq {ws : va_W} {k : Nat} {e0 e : Nat × va_E} (h : ws[k]? = some e0) : (ws.set k e)[k]? = some e := by
  rw [List.getElem?_set_self (List.getElem?_eq_some_iff.mp h).1]
theorem js_ne {ws : va_W} {k j : Nat} {e1 e2 e : Nat × va_E} (h1 : ws[k]? = some e1) (h2 : ws[j]? = some e2) (hn : e1 ≠ e2) : (ws.set k e)[j]? = some e2 := by
  rw [List.getElem?_set_ne (fun hkj => hn (by subst hkj; exact Option.some.inj (h1.symm.trans h2)))]
  exact h2
theorem js_old {ws : va_W} {k : Nat} {e e' : Nat × va_E} (h : ws[k]? = some e) : (ws ++ [e'])[k]? = some e := by
  rw [List.getElem?_append_left (List.getElem?_eq_some_iff.mp h).1]
  exact h
theorem js_new {ws : va_W} {e : Nat × va_E} : (ws ++ [e])[ws.length]? = some e := by
  rw [List.getElem?_append_right (Nat.le_refl _), Nat.sub_self]
  rfl
theorem jK_same {D : va_G} {c1 c2 : ClassId} {s : State} (h1 : va_K D vwCl [(c1, .byte)] s) (h2 : va_K D vwCl ([(c1, .byte)] ++ [(c2, .byte)]) s) : c1 = c2 := by
  have e1 : s.vm.findClass ("[" ++ FieldType.byte.toString) = some c1 := (h1.2 0 _ rfl).2
  have e2 : s.vm.findClass ("[" ++ FieldType.byte.toString) = some c2 := (h2.2 1 _ rfl).2
  exact Option.some.inj (e1.symm.trans e2)
theorem zI_pos {a : Int} (h : 0 ≤ a ∧ a < 2147483648) : ¬ zI a < 0 := by
  rw [← zI_0, zI_lt (by omega) (by omega)]
  omega
section ZJ
variable {p : Program} {l : Launch} {e : Env} {R : Room} {s : State} {m : MethodId} {args : Array Value} {below : List Frame} {meth : Method} {c : Code} {H : Heap} {locs : List Loc} {cells slots : Nat} {Q : State → Prop} {cc : ByteArray} {pc : Nat} {ls : Array Slot} {rest : List Value} {x y : Int}
theorem z_ineg (hx : p.tables.exec = Jvm.exec) (hb : c.code = cc) (hdg : decode cc pc = .ok (.ineg, 1)) (k : W p l e R s m args below meth c H locs cells slots Q (F0 m (pc + 1) ls (.int (zI (-x)) :: rest))) : W p l e R s m args below meth c H locs cells slots Q (F0 m pc ls (.int (zI x) :: rest)) := lv_ineg hx hb hdg (by rw [show -zI x = zI (-x) from (Int32.ofInt_neg x).symm]; exact k)
theorem z_ishr0 (hx : p.tables.exec = Jvm.exec) (hb : c.code = cc) (hdg : decode cc pc = .ok (.ishr, 1)) (k : W p l e R s m args below meth c H locs cells slots Q (F0 m (pc + 1) ls (.int (zI x) :: rest))) : W p l e R s m args below meth c H locs cells slots Q (F0 m pc ls (.int (zI 0) :: .int (zI x) :: rest)) := lv_ishr hx hb hdg (by rw [zI_0, sb_shr0]; exact k)
end ZJ
theorem js_last {ws : va_W} {e e' : Nat × va_E} : (ws ++ [e]).set ws.length e' = ws ++ [e'] := by
  rw [List.set_append_right _ _ (Nat.le_refl _), Nat.sub_self]
  rfl
theorem js_nel {ws ws0 : va_W} {j : Nat} {e0 e2 e : Nat × va_E} (h0 : ws0[j]? = some e0) (h2 : ws[j]? = some e2) : (ws.set ws0.length e)[j]? = some e2 := by
  have h9 := (List.getElem?_eq_some_iff.mp h0).1
  rw [List.getElem?_set_ne (by omega)]
  exact h2
