-- ===== PART A: goes FIRST, ahead of the names: the tables' words, and 'selects' of the private methods out of them =====
/-- a private method of a class that the tables say can be made, by its rows of tables_1 -/
def lw_okq (q : MethodName × Nat) : Prop := (q.1.cls ≠ "java/lang/invoke/MethodHandle" ∧ q.1.cls ≠ "java/lang/invoke/VarHandle") ∧ Cond.instantiable q.1.cls q.2 ∈ tables_1 ∧ Cond.privateMethod q.1 ∈ tables_1 ∧ Cond.instanceMethod q.1 ∈ tables_1
theorem lw_p0 : lw_okq (⟨"java/lang/Throwable", "fillInStackTrace", "(I)Ljava/lang/Throwable;"⟩, 6) := ⟨⟨by decide +kernel, by decide +kernel⟩, List.mem_of_getElem? (i := 309) (by decide +kernel), List.mem_of_getElem? (i := 307) (by decide +kernel), List.mem_of_getElem? (i := 308) (by decide +kernel)⟩
theorem lw_p1 : lw_okq (⟨"Slewfree", "craneAt", "(I)LSlewfree$Crane;"⟩, 9) := ⟨⟨by decide +kernel, by decide +kernel⟩, List.mem_of_getElem? (i := 28) (by decide +kernel), List.mem_of_getElem? (i := 363) (by decide +kernel), List.mem_of_getElem? (i := 364) (by decide +kernel)⟩
theorem lw_p2 : lw_okq (⟨"Slewfree$Crane", "tableLoad", "(I)I"⟩, 12) := ⟨⟨by decide +kernel, by decide +kernel⟩, List.mem_of_getElem? (i := 71) (by decide +kernel), List.mem_of_getElem? (i := 388) (by decide +kernel), List.mem_of_getElem? (i := 389) (by decide +kernel)⟩
theorem lw_p3 : lw_okq (⟨"Slewfree", "shutZones", "()I"⟩, 9) := ⟨⟨by decide +kernel, by decide +kernel⟩, List.mem_of_getElem? (i := 28) (by decide +kernel), List.mem_of_getElem? (i := 427) (by decide +kernel), List.mem_of_getElem? (i := 428) (by decide +kernel)⟩
theorem lw_p4 : lw_okq (⟨"Slewfree", "freeLockedJibs", "()V"⟩, 9) := ⟨⟨by decide +kernel, by decide +kernel⟩, List.mem_of_getElem? (i := 28) (by decide +kernel), List.mem_of_getElem? (i := 498) (by decide +kernel), List.mem_of_getElem? (i := 499) (by decide +kernel)⟩
theorem lw_p5 : lw_okq (⟨"Slewfree", "turnFreeJibs", "()V"⟩, 9) := ⟨⟨by decide +kernel, by decide +kernel⟩, List.mem_of_getElem? (i := 28) (by decide +kernel), List.mem_of_getElem? (i := 506) (by decide +kernel), List.mem_of_getElem? (i := 507) (by decide +kernel)⟩
theorem lw_p6 : lw_okq (⟨"Slewfree", "tandemVerdict", "(LSlewfree$Crane;ILSlewfree$Crane;I)I"⟩, 9) := ⟨⟨by decide +kernel, by decide +kernel⟩, List.mem_of_getElem? (i := 28) (by decide +kernel), List.mem_of_getElem? (i := 524) (by decide +kernel), List.mem_of_getElem? (i := 525) (by decide +kernel)⟩
theorem lw_p7 : lw_okq (⟨"Slewfree", "isNoPage", "(I)Z"⟩, 9) := ⟨⟨by decide +kernel, by decide +kernel⟩, List.mem_of_getElem? (i := 28) (by decide +kernel), List.mem_of_getElem? (i := 536) (by decide +kernel), List.mem_of_getElem? (i := 537) (by decide +kernel)⟩
theorem lw_p8 : lw_okq (⟨"Slewfree", "tryLift", "(LSlewfree$Crane;IIII)LSlewfree$Trial;"⟩, 9) := ⟨⟨by decide +kernel, by decide +kernel⟩, List.mem_of_getElem? (i := 28) (by decide +kernel), List.mem_of_getElem? (i := 567) (by decide +kernel), List.mem_of_getElem? (i := 568) (by decide +kernel)⟩
theorem lw_p9 : lw_okq (⟨"Slewfree", "verdictAt", "(LSlewfree$Crane;III)I"⟩, 9) := ⟨⟨by decide +kernel, by decide +kernel⟩, List.mem_of_getElem? (i := 28) (by decide +kernel), List.mem_of_getElem? (i := 593) (by decide +kernel), List.mem_of_getElem? (i := 594) (by decide +kernel)⟩
theorem lw_p10 : lw_okq (⟨"Slewfree", "isInShutZone", "(LSlewfree$Crane;I)Z"⟩, 9) := ⟨⟨by decide +kernel, by decide +kernel⟩, List.mem_of_getElem? (i := 28) (by decide +kernel), List.mem_of_getElem? (i := 597) (by decide +kernel), List.mem_of_getElem? (i := 598) (by decide +kernel)⟩
theorem lw_p11 : lw_okq (⟨"Slewfree", "wouldClash", "(LSlewfree$Crane;I)Z"⟩, 9) := ⟨⟨by decide +kernel, by decide +kernel⟩, List.mem_of_getElem? (i := 28) (by decide +kernel), List.mem_of_getElem? (i := 606) (by decide +kernel), List.mem_of_getElem? (i := 607) (by decide +kernel)⟩
theorem lw_p12 : lw_okq (⟨"Slewfree", "isSoundCrane", "(LSlewfree$Crane;)Z"⟩, 9) := ⟨⟨by decide +kernel, by decide +kernel⟩, List.mem_of_getElem? (i := 28) (by decide +kernel), List.mem_of_getElem? (i := 626) (by decide +kernel), List.mem_of_getElem? (i := 627) (by decide +kernel)⟩
def lw_privs_1 : List (MethodName × Nat) := [(⟨"java/lang/Throwable", "fillInStackTrace", "(I)Ljava/lang/Throwable;"⟩, 6), (⟨"Slewfree", "craneAt", "(I)LSlewfree$Crane;"⟩, 9), (⟨"Slewfree$Crane", "tableLoad", "(I)I"⟩, 12), (⟨"Slewfree", "shutZones", "()I"⟩, 9), (⟨"Slewfree", "freeLockedJibs", "()V"⟩, 9), (⟨"Slewfree", "turnFreeJibs", "()V"⟩, 9), (⟨"Slewfree", "tandemVerdict", "(LSlewfree$Crane;ILSlewfree$Crane;I)I"⟩, 9), (⟨"Slewfree", "isNoPage", "(I)Z"⟩, 9), (⟨"Slewfree", "tryLift", "(LSlewfree$Crane;IIII)LSlewfree$Trial;"⟩, 9), (⟨"Slewfree", "verdictAt", "(LSlewfree$Crane;III)I"⟩, 9), (⟨"Slewfree", "isInShutZone", "(LSlewfree$Crane;I)Z"⟩, 9), (⟨"Slewfree", "wouldClash", "(LSlewfree$Crane;I)Z"⟩, 9), (⟨"Slewfree", "isSoundCrane", "(LSlewfree$Crane;)Z"⟩, 9)]
theorem lw_r1 : ∀ q ∈ lw_privs_1, lw_okq q := List.forall_mem_cons.mpr ⟨lw_p0, List.forall_mem_cons.mpr ⟨lw_p1, List.forall_mem_cons.mpr ⟨lw_p2, List.forall_mem_cons.mpr ⟨lw_p3, List.forall_mem_cons.mpr ⟨lw_p4, List.forall_mem_cons.mpr ⟨lw_p5, List.forall_mem_cons.mpr ⟨lw_p6, List.forall_mem_cons.mpr ⟨lw_p7, List.forall_mem_cons.mpr ⟨lw_p8, List.forall_mem_cons.mpr ⟨lw_p9, List.forall_mem_cons.mpr ⟨lw_p10, List.forall_mem_cons.mpr ⟨lw_p11, List.forall_mem_cons.mpr ⟨lw_p12, fun _ h => absurd h List.not_mem_nil⟩⟩⟩⟩⟩⟩⟩⟩⟩⟩⟩⟩⟩
def lw_privs : List (MethodName × Nat) := lw_privs_1
/-- six private methods of AbstractStringBuilder, called on a StringBuilder: a private method selects itself -/
theorem lw_sel_sub {C : String} {y z : MethodName} {s : State} {args : Array Value} (hc : y.cls = z.cls) (hy : y.cls ≠ "java/lang/invoke/MethodHandle" ∧ y.cls ≠ "java/lang/invoke/VarHandle") (hz : (Cond.selects C z z).before args s = true) (hpriv : (Cond.privateMethod y).before args s = true) (hinst : (Cond.instanceMethod y).before args s = true) : (Cond.selects C y y).before args s = true := by
  obtain ⟨c, r, m, h1, h2, h3, h4, k, h5, h6⟩ := Cond.selects_spec hz
  obtain ⟨mk, methM, hnamed, hmethM, -, -⟩ := Cond.instanceMethod_spec hinst
  have hfound : s.methodFound? y.cls y.name y.desc = some mk := State.methodFound?_of_named hnamed hy
  have e1 := findClass_of_methodNamed h3
  have e2 := findClass_of_methodNamed hnamed
  rw [hc] at e2
  have e3 : mk.cls = m.cls := Option.some.inj (e2.symm.trans e1)
  have hsel : selectMethod {} s.vm c mk = .method mk := selectMethod_private hmethM (Cond.privateMethod_at hpriv mk methM hnamed hmethM)
  simp only [Cond.before, Cond.holds, Cond.value, h1, hfound, hnamed, hsel, e3, h5]
  simp [h6]
def lw_sbn (n d : String) : MethodName := ⟨"java/lang/AbstractStringBuilder", n, d⟩
def lw_subs : List MethodName := [lw_sbn "ensureCapacityInternal" "(I)V", lw_sbn "newCapacity" "(I)I", lw_sbn "inflate" "()V", lw_sbn "appendNull" "()Ljava/lang/AbstractStringBuilder;", lw_sbn "putStringAt" "(ILjava/lang/String;)V", lw_sbn "inflateIfNeededFor" "(Ljava/lang/String;)V"]
theorem lw_subs_ok : ∀ y ∈ lw_subs, y.cls = "java/lang/AbstractStringBuilder" ∧ Cond.privateMethod y ∈ tables_1 ∧ Cond.instanceMethod y ∈ tables_1 := by decide +kernel
theorem lw_sub0 : Cond.selects "java/lang/StringBuilder" (lw_sbn "isLatin1" "()Z") (lw_sbn "isLatin1" "()Z") ∈ tables_1 := by decide +kernel
def lw_tbl : List Cond := lw_subs.map (fun y => Cond.selects "java/lang/StringBuilder" y y) ++ (k2_sels lw_privs ++ tables_1)
theorem lw_privs_ok : ∀ q ∈ lw_privs, lw_okq q := lw_r1
theorem lw_hts {args : Array Value} {s : State} (h : ∀ w ∈ tables_1, w.before args s = true) : ∀ w ∈ lw_tbl, w.before args s = true := by
  intro w hw
  rcases List.mem_append.mp hw with hw | hw
  · obtain ⟨y, hy, rfl⟩ := List.mem_map.mp hw
    obtain ⟨h1, h2, h3⟩ := lw_subs_ok y hy
    exact lw_sel_sub (z := lw_sbn "isLatin1" "()Z") h1 (by rw [h1]; decide) (h _ lw_sub0) (h _ h2) (h _ h3)
  · exact k2_hts_sels lw_privs h lw_privs_ok w hw
-- ===== end of PART A; then your names; then what follows =====
