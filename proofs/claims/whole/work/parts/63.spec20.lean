/-! what the Statement gives of String constants and statics -/
theorem str_of {args : Array Value} {s : State} {tm : Term} {bs : List Int32} {A : Nat → Prop} (hN : bs.length < 2 ^ 31) (hex : (Cond.exactly tm "java/lang/String").before args s = true) (hco : (Cond.eq (.field tm "java/lang/String" "coder" "B") (.int 0)).before args s = true) (har : (Cond.arrayOf (.field tm "java/lang/String" "value" "[B") .byte).before args s = true) (hle : (Cond.eq (.length (.field tm "java/lang/String" "value" "[B")) (.int (Int32.ofNat bs.length))).before args s = true)
    (hel : ∀ j : Nat, j < bs.length → (Cond.eq (.elem (.field tm "java/lang/String" "value" "[B") (.int (Int32.ofNat j))) (.int (bs.getD j 0))).before args s = true) (hA : ∀ a : Nat, a < s.heap.size → ¬ A a) : ∃ q v : Nat, tm.eval args s none [] s = some (.ref q) ∧ strIs q v bs A s s.heap := by
  obtain ⟨a, c, cA, kA, q1, q2, q3, q4, q5, q6, -⟩ := Cond.exactly_spec (args := args) (first := s) (o := none) (s := s) (idx := []) (t := tm) (cls := "java/lang/String") hex
  obtain ⟨t, ht, hT⟩ := va_Tof (f := fun j => .int (bs.getD j 0)) (A := A) hN har (va_eqt hle) (fun j hj => va_eqt (hel j hj)) hA
  exact ⟨a, t, q1, ⟨cA, q3, q5, by rw [q6]; exact q2, hA a (Array.getElem?_eq_some_iff.mp q3).1⟩, vk_OFof q1 (va_eqt hco) hA, vk_OFof q1 ht hA, hT⟩
theorem isRef_of {args : Array Value} {s : State} {t : Term} (h : (Cond.isRef t).before args s = true) : ∃ v, t.eval args s none [] s = some v ∧ (v = .null ∨ ∃ a : Nat, v = .ref a) := by
  cases hv : t.eval args s none [] s with
  | none => simp [Cond.before, Cond.holds, Cond.value, hv] at h
  | some v =>
    refine ⟨v, rfl, ?_⟩
    cases v with
    | null => exact Or.inl rfl
    | ref a => exact Or.inr ⟨a, rfl⟩
    | _ => simp [Cond.before, Cond.holds, Cond.value, hv] at h
def nwL : List Cond := flatC (Jvm.Cond.and given_1 narrow_1)
theorem nw_1 : ∀ i, i < 21 → (Cond.exactly (Term.string (sRow i).1 (sRow i).2.1) "java/lang/String") ∈ nwL ∧ (Cond.eq (.field (Term.string (sRow i).1 (sRow i).2.1) "java/lang/String" "coder" "B") (.int 0)) ∈ nwL ∧ (Cond.arrayOf (.field (Term.string (sRow i).1 (sRow i).2.1) "java/lang/String" "value" "[B") .byte) ∈ nwL ∧ (Cond.eq (.length (.field (Term.string (sRow i).1 (sRow i).2.1) "java/lang/String" "value" "[B")) (.int (Int32.ofNat (sBy i).length))) ∈ nwL := by decide +kernel
theorem nw_2 : ∀ i, i < 21 → ∀ j, j < (sBy i).length → (Cond.eq (.elem (.field (Term.string (sRow i).1 (sRow i).2.1) "java/lang/String" "value" "[B") (.int (Int32.ofNat j))) (.int ((sBy i).getD j 0))) ∈ nwL := by decide +kernel
theorem nw_3 : (Cond.eq (Term.static "java/lang/String" "COMPACT_STRINGS" "Z") (.int 1)) ∈ nwL ∧ (Cond.isRef (Term.static "jdk/internal/util/Preconditions" "SIOOBE_FORMATTER" "Ljava/util/function/BiFunction;")) ∈ nwL ∧ (Cond.isRef (Term.static "java/lang/Throwable" "UNASSIGNED_STACK" "[Ljava/lang/StackTraceElement;")) ∈ nwL ∧ (Cond.isRef (Term.static "java/lang/Throwable" "SUPPRESSED_SENTINEL" "Ljava/util/List;")) ∈ nwL := by decide +kernel
theorem tb_1 : ∀ i, i < 21 → (Cond.stringRef (sRow i).1 (sRow i).2.1 (sRow i).2.2.1) ∈ tables_1 := by decide +kernel
theorem tb_2 : (Cond.laysStatic "java/lang/String" "COMPACT_STRINGS" "Z") ∈ tables_1 ∧ (Cond.laysStatic "jdk/internal/util/Preconditions" "SIOOBE_FORMATTER" "Ljava/util/function/BiFunction;") ∈ tables_1 ∧ (Cond.laysStatic "java/lang/Throwable" "UNASSIGNED_STACK" "[Ljava/lang/StackTraceElement;") ∈ tables_1 ∧ (Cond.laysStatic "java/lang/Throwable" "SUPPRESSED_SENTINEL" "Ljava/util/List;") ∈ tables_1 ∧ (Cond.initialized "java/lang/String") ∈ tables_1 ∧ (Cond.initialized "jdk/internal/util/Preconditions") ∈ tables_1 ∧ (Cond.initialized "java/lang/Throwable") ∈ tables_1 := by decide +kernel
theorem tb_in {w : Cond} (h : w ∈ tables_1) : w ∈ lw_tbl := List.mem_append_right _ h
theorem env_s {s : State} {b : Nat} {A : Nat → Prop} (hts : ∀ w ∈ lw_tbl, w.before #[Value.ref b] s = true) (hgv : (Jvm.Cond.and given_1 narrow_1).before #[Value.ref b] s = true) (hA : ∀ a : Nat, a < s.heap.size → ¬ A a) : ∃ (sa sv : Nat → Nat) (fv : Value), sW sa sv fv A s s.heap := by
  have hs : ∀ w ∈ nwL, w.before #[Value.ref b] s = true := flat_of_before _ hgv
  have h0 : ∀ i : Nat, ∃ q : Nat × Nat, i < 21 → (Term.string (sRow i).1 (sRow i).2.1).eval #[Value.ref b] s none [] s = some (.ref q.1) ∧ strIs q.1 q.2 (sBy i) A s s.heap := by
    intro i
    by_cases hi : i < 21
    · obtain ⟨n1, n2, n3, n4⟩ := nw_1 i hi
      have hl := sBy_len i hi
      obtain ⟨q, v, g1, g2⟩ := str_of (tm := Term.string (sRow i).1 (sRow i).2.1) (bs := sBy i) (A := A) (by omega) (hs _ n1) (hs _ n2) (hs _ n3) (hs _ n4) (fun j hj => hs _ (nw_2 i hi j hj)) hA
      exact ⟨(q, v), fun _ => ⟨g1, g2⟩⟩
    · exact ⟨(0, 0), fun h => absurd h hi⟩
  obtain ⟨ad, had⟩ := Classical.axiomOfChoice h0
  obtain ⟨m1, m2, m3, m4⟩ := nw_3
  obtain ⟨t1, t2, t3, t4, t5, t6, t7⟩ := tb_2
  obtain ⟨fv, e1, e2⟩ := isRef_of (hs _ m2)
  exact ⟨fun i => (ad i).1, fun i => (ad i).2, fv, fun i hi => ⟨vk_R.of (A := #[Value.ref b]) (hts _ (tb_in (tb_1 i hi))) (had i hi).1, (had i hi).2⟩, va_Zof (hts _ (tb_in t1)) (hts _ (tb_in t5)) (va_eqt (hs _ m1)) hA, va_Zof (hts _ (tb_in t2)) (hts _ (tb_in t6)) e1 hA, e2⟩
theorem env_t {s : State} {b : Nat} {A : Nat → Prop} (hts : ∀ w ∈ lw_tbl, w.before #[Value.ref b] s = true) (hgv : (Jvm.Cond.and given_1 narrow_1).before #[Value.ref b] s = true) (hA : ∀ a : Nat, a < s.heap.size → ¬ A a) : ∃ (us1 us2 : Value), tW us1 us2 A s s.heap := by
  have hs : ∀ w ∈ nwL, w.before #[Value.ref b] s = true := flat_of_before _ hgv
  obtain ⟨m1, m2, m3, m4⟩ := nw_3
  obtain ⟨t1, t2, t3, t4, t5, t6, t7⟩ := tb_2
  obtain ⟨v1, e1, e2⟩ := isRef_of (hs _ m3)
  obtain ⟨v2, f1, f2⟩ := isRef_of (hs _ m4)
  exact ⟨v1, v2, va_Zof (hts _ (tb_in t3)) (hts _ (tb_in t7)) e1 hA, va_Zof (hts _ (tb_in t4)) (hts _ (tb_in t7)) f1 hA, e2, f2⟩
