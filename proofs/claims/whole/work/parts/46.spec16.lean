/-! the reference's parser against the machine -/
section BW4
variable {p : Program} {l : Launch} {e : Env} {R : Room} {s : State} {m : MethodId} {args : Array Value} {below : List Frame} {meth : Method} {c : Code} {H : Heap} {locs : List Loc} {cells slots : Nat} {Q : State → Prop}
theorem bw_QeT {Q1 : State → Prop} {g : JFrame} {x : Nat} (h : Q = Q1) (k : bw_WT p l e R s m args below meth c H locs cells slots Q1 g x) : bw_WT p l e R s m args below meth c H locs cells slots Q g x := by
  rw [h]; exact k
theorem tab_one {L : List ExceptionTableEntry} {a b c d : Nat} (h : L.map (fun h => (h.startPc, h.endPc, h.handlerPc, h.catchType)) = [(a, b, c, d)]) : ∃ x, L = [x] ∧ x.startPc = a ∧ x.endPc = b ∧ x.handlerPc = c ∧ x.catchType = d := by
  cases L with
  | nil => cases h
  | cons x t =>
    cases t with
    | nil =>
      have h1 : (x.startPc, x.endPc, x.handlerPc, x.catchType) = (a, b, c, d) := (List.cons.inj h).1
      exact ⟨x, rfl, congrArg (fun z => z.1) h1, congrArg (fun z => z.2.1) h1, congrArg (fun z => z.2.2.1) h1, congrArg (fun z => z.2.2.2) h1⟩
    | cons y t => cases h
theorem bw_MetW {y : MethodName} {ws ws' : List Cond} {rm : Room} {Pc : Array Value → State → Prop} {Qc : Array Value → State → Outcome → State → Prop} {mc ms : Nat} {free : Addr → Prop} {cc : ByteArray} {maxL : Nat} {ret : Option FieldType} {hh : List (Nat × Nat × Nat × Nat)}
    (hy : plainName y.cls = true) (hw : ws = Cond.codeWith y cc maxL ret hh :: ws')
    (body : ∀ p e s m args below meth c s₁, BodyLoose p l y (headSpec ws rm) cc maxL ret e s m args below meth c s₁ → c.maxLocals = maxL → c.exceptionTable.toList.map (fun h => (h.startPc, h.endPc, h.handlerPc, h.catchType)) = hh → Pc args s →
      W p l e (headSpec ws rm).room s m args below meth c s.heap [] 0 0 (MQ below Qc args s mc ms free) (entryFrame m args maxL)) : Met l y ws rm Pc Qc mc ms free := by
  refine va_MetW (hh := hh) hy hw (fun p e s m args below meth c s₁ B hml hP => body p e s m args below meth c s₁ B hml ?_ hP)
  obtain ⟨m9, meth9, c9, hn9, h1, h2, -, -, h5, -⟩ := Cond.codeWith_spec (atoms_spec (ws := ws) B.pre _ (by rw [hw]; exact List.mem_cons_self))
  cases B.named.symm.trans hn9
  cases B.method.symm.trans h1
  cases (Stand.of_body B).code.symm.trans h2
  exact h5
end BW4
theorem lk_n2 {tb : Nat → Int32} {n fr be : Nat} {ha va : Int} (h : lk tb n fr be ha va) (h2 : ha = 2) : fr < n ∧ be = tE tb n fr ∧ tokN tb fr (tE tb n fr) = va ∧ 0 ≤ va ∧ va ≤ 9999 := by
  obtain ⟨k1, k2, k3, k4, k5, t0, t1, t2, t3, t4, t5⟩ := h
  have hf : fr < n := by
    rcases Nat.lt_or_ge fr n with q | q
    · exact q
    · have := t0 q; omega
  obtain ⟨e1, e2, e3⟩ := k4 hf
  have q1 : ¬ bSm tb n fr := fun q => by have := t1 q; omega
  have q2 : bDg tb n fr := by
    by_cases q : bDg tb n fr
    · exact q
    · by_cases z : (tb fr).toInt = 59
      · have := t4 hf q1 q z; omega
      · have := t5 hf q1 q z; omega
  have q3 : be ≤ fr + 4 := by
    rcases Nat.lt_or_ge (fr + 4) be with q | q
    · have := t3 q2 q; omega
    · exact q
  have q4 := (t2 q2 q3).2
  refine ⟨hf, e1, ?_, ?_⟩
  · rw [← e1, tokN_yes ⟨q3, q2.2⟩, q4]
  · rw [q4]
    exact vN_4 (by omega) (fun k hk => ((e3.2.1 q2).2.1 (fr + k) (by omega) (by omega)).2)
theorem lk_no2 {tb : Nat → Int32} {n fr be : Nat} {ha va : Int} (h : lk tb n fr be ha va) (h2 : ha ≠ 2) (hf : fr < n) : tokN tb fr (tE tb n fr) = -1 := by
  obtain ⟨k1, k2, k3, k4, k5, t0, t1, t2, t3, t4, t5⟩ := h
  obtain ⟨e1, e2, e3⟩ := k4 hf
  rw [← e1]
  exact tokN_no (fun q => h2 (t2 ⟨hf, q.2⟩ q.1).1)
theorem num_1 {tb : Nat → Int32} {n fr be pa th tw tt ln : Nat} {lw ha va : Int} {d : Nat → Int32} (h : lk tb n fr be ha va) (h2 : ha ≠ 2) (hl : lw ≠ -1) (hp : pa < prt lw) (h4 : lw ≠ 4) : stp tb n (fr, lw, pa, th, tw, tt, ln, d) = rF 1 fr := by
  rcases Nat.lt_or_ge fr n with q | q
  · rw [stp_N q hl hp h4]; unfold stN; exact cif_t (lk_no2 h h2 q)
  · rw [stp_cut q hl, show n = fr by have := h.1; omega]
theorem num_2 {tb : Nat → Int32} {n fr be pa th tw tt ln : Nat} {lw ha va : Int} {d : Nat → Int32} (h : lk tb n fr be ha va) (h2 : ha = 2) (hm : mst lw pa < va) (hl : lw ≠ -1) (hp : pa < prt lw) (h4 : lw ≠ 4) : stp tb n (fr, lw, pa, th, tw, tt, ln, d) = rF 2 fr := by
  obtain ⟨q1, q2, q3, q4, q5⟩ := lk_n2 h h2
  rw [stp_N q1 hl hp h4]; unfold stN
  rw [q3, cif_f (by omega)]
  exact cif_t hm
theorem num_o {tb : Nat → Int32} {n fr be pa th tw tt ln : Nat} {lw ha va : Int} {d : Nat → Int32} (h : lk tb n fr be ha va) (h2 : ha = 2) (hm : va ≤ mst lw pa) (hl : lw ≠ -1) (hp : pa < prt lw) (h4 : lw ≠ 4) (h7 : ¬ (lw = 7 ∧ pa = 0)) : stp tb n (fr, lw, pa, th, tw, tt, ln, d) = .inl (tS tb n be, lw, pa + 1, th, tw, tt, ln, upd d (plc lw pa th) (nI va.toNat)) := by
  obtain ⟨q1, q2, q3, q4, q5⟩ := lk_n2 h h2
  rw [stp_N q1 hl hp h4]; unfold stN
  rw [q3, cif_f (by omega), cif_f (by omega), cif_f h7, q2]
theorem num_t3 {tb : Nat → Int32} {n fr be th tw tt ln : Nat} {ha va : Int} {d : Nat → Int32} (h : lk tb n fr be ha va) (h2 : ha = 2) (hm : va ≤ 7) (hb : tt.testBit va.toNat = true) : stp tb n (fr, 7, 0, th, tw, tt, ln, d) = rF 3 fr := by
  obtain ⟨q1, q2, q3, q4, q5⟩ := lk_n2 h h2
  rw [stp_N q1 (by decide) (by decide) (by decide)]; unfold stN
  rw [q3, cif_f (by omega), cif_f (show ¬ mst 7 0 < va from fun q => absurd (show (7 : Int) < va from q) (by omega)), cif_t ⟨rfl, rfl⟩]
  exact cif_t hb
theorem num_to {tb : Nat → Int32} {n fr be th tw tt ln : Nat} {ha va : Int} {d : Nat → Int32} (h : lk tb n fr be ha va) (h2 : ha = 2) (hm : va ≤ 7) (hb : ¬ tt.testBit va.toNat = true) : stp tb n (fr, 7, 0, th, tw, tt, ln, d) = .inl (tS tb n be, 7, 1, va.toNat, tw, tt ||| 2 ^ va.toNat, ln, d) := by
  obtain ⟨q1, q2, q3, q4, q5⟩ := lk_n2 h h2
  rw [stp_N q1 (by decide) (by decide) (by decide)]; unfold stN
  rw [q3, cif_f (by omega), cif_f (show ¬ mst 7 0 < va from fun q => absurd (show (7 : Int) < va from q) (by omega)), cif_t ⟨rfl, rfl⟩, cif_f hb, q2]
/-- number threw -/
theorem num_T {tb : Nat → Int32} {n fr be pa th tw tt ln : Nat} {lw ha va fk fp mo : Int} {d : Nat → Int32} (hR : rch tb n (fr, lw, pa, th, tw, tt, ln, d)) (h : lk tb n fr be ha va) (hl : lw ≠ -1) (hp : pa < prt lw) (h4 : lw ≠ 4) (hmo : mo = mst lw pa) (hfp : fp = (fr : Int)) (hk : (fk = 1 ∧ ha ≠ 2) ∨ (fk = 2 ∧ ha = 2 ∧ mo < va)) : fk ≠ 0 ∧ rOut tb n (fk, fp, 0, fun _ => 0) := by
  subst hfp
  rcases hk with ⟨e, h2⟩ | ⟨e, h2, h3⟩
  · subst e; exact ⟨by decide, rch_e hR (num_1 h h2 hl hp h4)⟩
  · subst e; exact ⟨by decide, rch_e hR (num_2 h h2 (by omega) hl hp h4)⟩
theorem lk_w {tb : Nat → Int32} {n fr be : Nat} {ha va : Int} (h : lk tb n fr be ha va) (h0 : ha ≠ 0) : fr < n ∧ be = tE tb n fr := by
  have hf : fr < n := by
    rcases Nat.lt_or_ge fr n with q | q
    · exact q
    · exact absurd (h.2.2.2.2.2.1 q) h0
  exact ⟨hf, (h.2.2.2.1 hf).1⟩
theorem key_1 {tb : Nat → Int32} {n fr be pa th tw tt ln : Nat} {ha va : Int} {d : Nat → Int32} (h : lk tb n fr be ha va) (h0 : ha ≠ 0) (hk : kwTo tb fr be 8 = -1) : stp tb n (fr, -1, pa, th, tw, tt, ln, d) = rF 1 fr := by
  obtain ⟨q1, q2⟩ := lk_w h h0
  rw [stp_W q1 rfl]; unfold stW
  rw [← q2]; exact cif_t hk
theorem key_3 {tb : Nat → Int32} {n fr be pa th tw tt ln : Nat} {ha va : Int} {d : Nat → Int32} (h : lk tb n fr be ha va) (h0 : ha ≠ 0) (hk : kwTo tb fr be 8 ≠ -1) (h7 : kwTo tb fr be 8 ≠ 7) (hb : tw.testBit (kwTo tb fr be 8).toNat = true) : stp tb n (fr, -1, pa, th, tw, tt, ln, d) = rF 3 fr := by
  obtain ⟨q1, q2⟩ := lk_w h h0
  rw [stp_W q1 rfl]; unfold stW
  rw [← q2, cif_f hk]; exact cif_t ⟨h7, hb⟩
theorem key_o {tb : Nat → Int32} {n fr be pa th tw tt ln : Nat} {ha va : Int} {d : Nat → Int32} (h : lk tb n fr be ha va) (h0 : ha ≠ 0) (hk : kwTo tb fr be 8 ≠ -1) (hb : kwTo tb fr be 8 = 7 ∨ ¬ tw.testBit (kwTo tb fr be 8).toNat = true) : stp tb n (fr, -1, pa, th, tw, tt, ln, d) = .inl (tS tb n be, kwTo tb fr be 8, 0, 0, tw ||| 2 ^ (kwTo tb fr be 8).toNat, tt, ln, d) := by
  obtain ⟨q1, q2⟩ := lk_w h h0
  rw [stp_W q1 rfl]; unfold stW
  rw [← q2, cif_f hk]; exact cif_f (fun q => hb.elim (fun z => q.1 z) (fun z => z q.2))
theorem isW_10 {tb : Nat → Int32} {n fr be : Nat} {ha va : Int} (h : lk tb n fr be ha va) (hf : fr < n) : isW tb fr be 10 ↔ ha = 3 := by
  obtain ⟨k1, k2, k3, k4, k5, t0, t1, t2, t3, t4, t5⟩ := h
  obtain ⟨e1, e2, e3⟩ := k4 hf
  have hw : isW tb fr be 10 ↔ be = fr + 1 ∧ (tb fr).toInt = 59 := by
    constructor
    · intro q; exact ⟨q.1, q.2 0 (by decide)⟩
    · intro q
      refine ⟨q.1, fun k hk => ?_⟩
      have : k = 0 := by have : (wdB 10).length = 1 := rfl
                         omega
      subst this; exact q.2
  rw [hw]
  by_cases a : bSm tb n fr
  · exact ⟨fun q => absurd a.2.1 (by omega), fun q => by have := t1 a; omega⟩
  · by_cases b : bDg tb n fr
    · constructor
      · intro q; have := b.2; omega
      · intro q
        rcases Nat.lt_or_ge (fr + 4) be with z | z
        · have := t3 b z; omega
        · have := (t2 b z).1; omega
    · constructor
      · intro q; exact t4 hf a b q.2
      · intro q
        refine ⟨e3.2.2 a b, ?_⟩
        by_cases z : (tb fr).toInt = 59
        · exact z
        · have := t5 hf a b z; omega
theorem end_1 {tb : Nat → Int32} {n fr be pa th tw tt ln : Nat} {lw ha va : Int} {d : Nat → Int32} (h : lk tb n fr be ha va) (h3 : ha ≠ 3) (hl : lw ≠ -1) (hp : prt lw ≤ pa) : stp tb n (fr, lw, pa, th, tw, tt, ln, d) = rF 1 fr := by
  rcases Nat.lt_or_ge fr n with q | q
  · rw [stp_E q hl hp]; unfold stE
    rw [← (h.2.2.2.1 q).1]
    exact cif_f (fun z => h3 ((isW_10 h q).mp z))
  · rw [stp_cut q hl, show n = fr by have := h.1; omega]
theorem end_o {tb : Nat → Int32} {n fr be pa th tw tt ln : Nat} {lw ha va : Int} {d : Nat → Int32} (h : lk tb n fr be ha va) (h3 : ha = 3) (hl : lw ≠ -1) (hp : prt lw ≤ pa) : stp tb n (fr, lw, pa, th, tw, tt, ln, d) = .inl (tS tb n be, -1, pa, th, tw, tt, ln + 1, d) := by
  obtain ⟨q, q2⟩ := lk_w h (by omega)
  rw [stp_E q hl hp]; unfold stE
  rw [← q2]
  exact cif_t ((isW_10 h q).mpr h3)
theorem yes_o {tb : Nat → Int32} {n fr be th tw tt ln : Nat} {ha va : Int} {d : Nat → Int32} (h : lk tb n fr be ha va) (hw : isW tb fr be 8) : stp tb n (fr, 4, 0, th, tw, tt, ln, d) = .inl (tS tb n be, 4, 1, th, tw, tt, ln, upd d 4 1) := by
  have q := (isW_sm (by omega) hw h.2.1).1
  rw [stp_Y q (by decide) (by decide) rfl]; unfold stY
  rw [← (h.2.2.2.1 q).1]; exact cif_t hw
theorem no_o {tb : Nat → Int32} {n fr be th tw tt ln : Nat} {ha va : Int} {d : Nat → Int32} (h : lk tb n fr be ha va) (hy : ¬ isW tb fr be 8) (hw : isW tb fr be 9) : stp tb n (fr, 4, 0, th, tw, tt, ln, d) = .inl (tS tb n be, 4, 1, th, tw, tt, ln, upd d 4 0) := by
  have q := (isW_sm (by omega) hw h.2.1).1
  rw [stp_Y q (by decide) (by decide) rfl]; unfold stY
  rw [← (h.2.2.2.1 q).1, cif_f hy]; exact cif_t hw
theorem yn_1 {tb : Nat → Int32} {n fr be th tw tt ln : Nat} {ha va : Int} {d : Nat → Int32} (h : lk tb n fr be ha va) (hy : ¬ isW tb fr be 8) (hn : ¬ isW tb fr be 9) : stp tb n (fr, 4, 0, th, tw, tt, ln, d) = rF 1 fr := by
  rcases Nat.lt_or_ge fr n with q | q
  · rw [stp_Y q (by decide) (by decide) rfl]; unfold stY
    rw [← (h.2.2.2.1 q).1, cif_f hy]; exact cif_f hn
  · rw [stp_cut q (by decide), show n = fr by have := h.1; omega]
def thP (tt : Nat) (rd : Nat → Int32) : Prop := ∀ t, t < 8 → (tt.testBit t = true ↔ (rd (10 + t)).toInt ≠ -1)
theorem thP_lo {tt p : Nat} {rd : Nat → Int32} {v : Int32} (h : thP tt rd) (hp : p < 10) : thP tt (upd rd p v) := fun t ht => by rw [pk_un (by omega)]; exact h t ht
theorem thP_set {tt t : Nat} {rd : Nat → Int32} {v : Int32} (h : thP tt rd) (hv : 0 ≤ v.toInt) : thP (tt ||| 2 ^ t) (upd rd (10 + t) v) := fun j hj => by
  rw [fb_bit_set]
  by_cases q : j = t
  · subst q; rw [pk_us, decide_eq_true rfl, Bool.or_true]; exact ⟨fun _ => by omega, fun _ => rfl⟩
  · rw [pk_un (by omega), decide_eq_false q, Bool.or_false]; exact h j hj
def tdP (tw : Nat) (zt : Nat → Int32) : Prop := ∀ k, k < 8 → ((zt k).toInt ≠ 0 ↔ tw.testBit k = true)
theorem tdP_set {tw t : Nat} {zt : Nat → Int32} (h : tdP tw zt) : tdP (tw ||| 2 ^ t) (upd zt t 1) := fun j hj => by
  rw [fb_bit_set]
  by_cases q : j = t
  · subst q; rw [pk_us, decide_eq_true rfl, Bool.or_true]; exact ⟨fun _ => rfl, fun _ => by decide⟩
  · rw [pk_un q, decide_eq_false q, Bool.or_false]; exact h j hj
def numT (fk fp ha va hi : Int) (fr : Nat) : Prop := fp = (fr : Int) ∧ ((fk = 1 ∧ ha ≠ 2) ∨ (fk = 2 ∧ ha = 2 ∧ hi < va))
/-- readLine went through -/
def rlP (tb : Nat → Int32) (n k tw ln fr be : Nat) (ha va : Int) (rd : Nat → Int32) (th tt : Nat) (d : Nat → Int32) : Prop := rch tb n (fr, (k : Int), prt (k : Int), th, tw, tt, ln, d) ∧ lk tb n fr be ha va ∧ agr rd d ∧ thP tt rd ∧ tt < 256
theorem rl_1 {tb : Nat → Int32} {n k tw tt ln fr be fr2 be2 p : Nat} {ha va ha2 va2 : Int} {d rd : Nat → Int32} {r : Int32} (hR : rch tb n (fr, (k : Int), 0, 0, tw, tt, ln, d)) (h : lk tb n fr be ha va) (h2 : ha = 2) (hm : va ≤ mst (k : Int) 0) (hk : k = 0 ∨ k = 1 ∨ k = 2 ∨ k = 3 ∨ k = 6) (hp : p = plc (k : Int) 0 0) (hp2 : p < 10) (ha9 : agr rd d) (ht : thP tt rd) (htt : tt < 256) (hs : scP tb n be fr2 be2 ha2 va2) (hr : r.toInt = va) : rlP tb n k tw ln fr2 be2 ha2 va2 (upd rd p r) 0 tt (upd d p (nI va.toNat)) := by
  obtain ⟨q1, q2, q3, q4, q5⟩ := lk_n2 h h2
  have e1 : prt (k : Int) = 1 := by rcases hk with e | e | e | e | e <;> subst e <;> rfl
  have e2 : r = nI va.toNat := nI_back (by omega)
  refine ⟨?_, hs.2, by rw [e2]; exact agr_upd ha9 _ _, thP_lo ht hp2, htt⟩
  rw [hs.1, e1, hp]
  exact rch_s hR (num_o h h2 hm (by omega) (by rw [e1]; omega) (by omega) (by omega))
theorem run_ex {P : Nat → Prop} {n : Nat} (hP : ∀ k, P k → k < n) : ∀ f i, n - i ≤ f → ∃ j, isRun P i j
  | 0, i, h => ⟨i, Nat.le_refl _, fun k h1 h2 => absurd h2 (by omega), fun q => by have := hP i q; omega⟩
  | f + 1, i, h => by
    by_cases q : P i
    · have hi := hP i q
      obtain ⟨j, h1, h2, h3⟩ := run_ex hP f (i + 1) (by omega)
      refine ⟨j, by omega, fun k a b => ?_, h3⟩
      by_cases e : k = i
      · rw [e]; exact q
      · exact h2 k (by omega) b
    · exact ⟨i, Nat.le_refl _, fun k h1 h2 => absurd h2 (by omega), q⟩
theorem tS_ge {tb : Nat → Int32} {n i : Nat} : i ≤ tS tb n i := by
  obtain ⟨j, hj⟩ := run_ex (P := bBl tb n) (n := n) (fun k h => h.1) (n - i) i (Nat.le_refl _)
  unfold tS
  rw [rE_eq hj]; exact hj.1
theorem sc_le {tb : Nat → Int32} {n fr be fr2 be2 : Nat} {ha va : Int} (h : scP tb n be fr2 be2 ha va) (hf : fr ≤ be) : fr ≤ fr2 := by
  rw [h.1]; exact Nat.le_trans hf tS_ge
