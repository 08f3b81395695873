/-! the text of rules: runs of bytes, tokens, and a machine that takes token by token -/
def isRun (P : Nat → Prop) (i j : Nat) : Prop := i ≤ j ∧ (∀ k, i ≤ k → k < j → P k) ∧ ¬ P j
theorem isRun_one {P : Nat → Prop} {i j j2 : Nat} (h : isRun P i j) (h2 : isRun P i j2) : j = j2 := by
  rcases Nat.lt_trichotomy j j2 with q | q | q
  · exact absurd (h2.2.1 j h.1 q) h.2.2
  · exact q
  · exact absurd (h.2.1 j2 h2.1 q) h2.2.2
noncomputable def rE (P : Nat → Prop) (i : Nat) : Nat := Classical.epsilon (isRun P i)
theorem rE_eq {P : Nat → Prop} {i j : Nat} (h : isRun P i j) : rE P i = j := isRun_one (Classical.epsilon_spec (p := isRun P i) ⟨j, h⟩) h
/-- so far a run -/
def toRun (P : Nat → Prop) (i j : Nat) : Prop := i ≤ j ∧ ∀ k, i ≤ k → k < j → P k
theorem toRun_0 {P : Nat → Prop} {i : Nat} : toRun P i i := ⟨Nat.le_refl _, fun k h1 h2 => absurd h2 (by omega)⟩
theorem toRun_s {P : Nat → Prop} {i j : Nat} (h : toRun P i j) (hp : P j) : toRun P i (j + 1) :=
  ⟨by have := h.1; omega, fun k h1 h2 => by
    by_cases q : k = j
    · rw [q]; exact hp
    · exact h.2 k h1 (by omega)⟩
theorem toRun_e {P : Nat → Prop} {i j : Nat} (h : toRun P i j) (hp : ¬ P j) : isRun P i j := ⟨h.1, h.2, hp⟩
def bBl (tb : Nat → Int32) (n k : Nat) : Prop := k < n ∧ ((tb k).toInt = 32 ∨ (tb k).toInt = 10)
def bSm (tb : Nat → Int32) (n k : Nat) : Prop := k < n ∧ 97 ≤ (tb k).toInt ∧ (tb k).toInt ≤ 122
def bDg (tb : Nat → Int32) (n k : Nat) : Prop := k < n ∧ 48 ≤ (tb k).toInt ∧ (tb k).toInt ≤ 57
/-- the token that begins at i ends at j -/
def tEnd (tb : Nat → Int32) (n i j : Nat) : Prop := (bSm tb n i → isRun (bSm tb n) i j) ∧ (bDg tb n i → isRun (bDg tb n) i j) ∧ (¬ bSm tb n i → ¬ bDg tb n i → j = i + 1)
theorem tEnd_one {tb : Nat → Int32} {n i j j2 : Nat} (h : tEnd tb n i j) (h2 : tEnd tb n i j2) : j = j2 := by
  by_cases q1 : bSm tb n i
  · exact isRun_one (h.1 q1) (h2.1 q1)
  · by_cases q2 : bDg tb n i
    · exact isRun_one (h.2.1 q2) (h2.2.1 q2)
    · rw [h.2.2 q1 q2, h2.2.2 q1 q2]
noncomputable def tS (tb : Nat → Int32) (n i : Nat) : Nat := rE (bBl tb n) i
noncomputable def tE (tb : Nat → Int32) (n i : Nat) : Nat := Classical.epsilon (tEnd tb n i)
theorem tE_eq {tb : Nat → Int32} {n i j : Nat} (h : tEnd tb n i j) : tE tb n i = j := tEnd_one (Classical.epsilon_spec (p := tEnd tb n i) ⟨j, h⟩) h
theorem tS_n {tb : Nat → Int32} {n i : Nat} (h : n ≤ i) : tS tb n i = i := rE_eq ⟨Nat.le_refl _, fun k h1 h2 => absurd h2 (by omega), fun q => absurd q.1 (by omega)⟩
/-- the words -/
def wdB (w : Nat) : List Nat := [[100, 101, 97, 100], [108, 105, 118, 101, 100], [115, 111, 117, 114, 99, 101, 115], [115, 112, 97, 110], [111, 110, 101], [118, 111, 116, 101, 115], [100, 111, 119, 110], [116, 104, 101, 109, 101], [121, 101, 115], [110, 111], [59]].getD w []
def isW (tb : Nat → Int32) (ts te w : Nat) : Prop := te = ts + (wdB w).length ∧ ∀ k, k < (wdB w).length → (tb (ts + k)).toInt = (((wdB w).getD k 0 : Nat) : Int)
noncomputable def kwTo (tb : Nat → Int32) (ts te : Nat) : Nat → Int
  | 0 => -1
  | m + 1 => @ite Int (kwTo tb ts te m ≠ -1) (Classical.propDecidable _) (kwTo tb ts te m) (@ite Int (isW tb ts te m) (Classical.propDecidable _) (m : Int) (-1))
theorem kw_old {tb : Nat → Int32} {ts te m : Nat} (h : kwTo tb ts te m ≠ -1) : kwTo tb ts te (m + 1) = kwTo tb ts te m := @if_pos _ (Classical.propDecidable _) h Int _ _
theorem kw_hit {tb : Nat → Int32} {ts te m : Nat} (h : kwTo tb ts te m = -1) (h2 : isW tb ts te m) : kwTo tb ts te (m + 1) = m := (@if_neg _ (Classical.propDecidable _) (fun q => q h) Int _ _).trans (@if_pos _ (Classical.propDecidable _) h2 Int _ _)
theorem kw_miss {tb : Nat → Int32} {ts te m : Nat} (h : kwTo tb ts te m = -1) (h2 : ¬ isW tb ts te m) : kwTo tb ts te (m + 1) = -1 := (@if_neg _ (Classical.propDecidable _) (fun q => q h) Int _ _).trans (@if_neg _ (Classical.propDecidable _) h2 Int _ _)
theorem kw_rng {tb : Nat → Int32} {ts te : Nat} : ∀ m, -1 ≤ kwTo tb ts te m ∧ kwTo tb ts te m < m ∨ (m = 0 ∧ kwTo tb ts te m = -1)
  | 0 => Or.inr ⟨rfl, rfl⟩
  | m + 1 => by
    have ih := kw_rng (tb := tb) (ts := ts) (te := te) m
    by_cases h : kwTo tb ts te m = -1
    · by_cases h2 : isW tb ts te m
      · rw [kw_hit h h2]; omega
      · rw [kw_miss h h2]; omega
    · rw [kw_old h]; omega
def vN (tb : Nat → Int32) (ts : Nat) : Nat → Int
  | 0 => 0
  | m + 1 => vN tb ts m * 10 + ((tb (ts + m)).toInt - 48)
noncomputable def tokN (tb : Nat → Int32) (ts te : Nat) : Int := @ite Int (te ≤ ts + 4 ∧ 48 ≤ (tb ts).toInt ∧ (tb ts).toInt ≤ 57) (Classical.propDecidable _) (vN tb ts (te - ts)) (-1)
def mst (lw : Int) (pa : Nat) : Int := if lw = 2 then 6 else if lw = 5 then (if pa = 0 then 99 else 100) else if lw = 6 then 100 else if lw = 7 then (if pa = 0 then 7 else 99) else 999
def plc (lw : Int) (pa th : Nat) : Nat := if lw = 5 then (if pa = 0 then 5 else 6) else if lw = 6 then 7 else if lw = 7 then 10 + th else lw.toNat
def prt (lw : Int) : Nat := if lw = 5 ∨ lw = 7 then 2 else 1
/-- the machine's state: where the next token begins, which line, how many of its parts, the theme, which words and themes were told, how many lines, the draft -/
abbrev RS : Type := Nat × Int × Nat × Nat × Nat × Nat × Nat × (Nat → Int32)
abbrev RO : Type := Int × Int × Nat × (Nat → Int32)
def rF (k : Int) (p : Nat) : RS ⊕ RO := .inr (k, (p : Int), 0, fun _ => 0)
noncomputable def cif {α : Type} (P : Prop) (a b : α) : α := @ite α P (Classical.propDecidable P) a b
theorem cif_t {α : Type} {P : Prop} {a b : α} (h : P) : cif P a b = a := @if_pos _ (Classical.propDecidable _) h α a b
theorem cif_f {α : Type} {P : Prop} {a b : α} (h : ¬ P) : cif P a b = b := @if_neg _ (Classical.propDecidable _) h α a b
noncomputable def stW (tb : Nat → Int32) (n ts th tw tt ln : Nat) (d : Nat → Int32) : RS ⊕ RO :=
  cif (kwTo tb ts (tE tb n ts) 8 = -1) (rF 1 ts) (cif (kwTo tb ts (tE tb n ts) 8 ≠ 7 ∧ tw.testBit (kwTo tb ts (tE tb n ts) 8).toNat = true) (rF 3 ts)
    (.inl (tS tb n (tE tb n ts), kwTo tb ts (tE tb n ts) 8, 0, 0, tw ||| 2 ^ (kwTo tb ts (tE tb n ts) 8).toNat, tt, ln, d)))
noncomputable def stE (tb : Nat → Int32) (n ts pa th tw tt ln : Nat) (d : Nat → Int32) : RS ⊕ RO :=
  cif (isW tb ts (tE tb n ts) 10) (.inl (tS tb n (tE tb n ts), -1, pa, th, tw, tt, ln + 1, d)) (rF 1 ts)
noncomputable def stY (tb : Nat → Int32) (n ts : Nat) (lw : Int) (pa th tw tt ln : Nat) (d : Nat → Int32) : RS ⊕ RO :=
  cif (isW tb ts (tE tb n ts) 8) (.inl (tS tb n (tE tb n ts), lw, pa + 1, th, tw, tt, ln, upd d 4 1)) (cif (isW tb ts (tE tb n ts) 9) (.inl (tS tb n (tE tb n ts), lw, pa + 1, th, tw, tt, ln, upd d 4 0)) (rF 1 ts))
noncomputable def stN (tb : Nat → Int32) (n ts : Nat) (lw : Int) (pa th tw tt ln : Nat) (d : Nat → Int32) : RS ⊕ RO :=
  cif (tokN tb ts (tE tb n ts) = -1) (rF 1 ts) (cif (mst lw pa < tokN tb ts (tE tb n ts)) (rF 2 ts) (cif (lw = 7 ∧ pa = 0)
    (cif (tt.testBit (tokN tb ts (tE tb n ts)).toNat = true) (rF 3 ts) (.inl (tS tb n (tE tb n ts), lw, pa + 1, (tokN tb ts (tE tb n ts)).toNat, tw, tt ||| 2 ^ (tokN tb ts (tE tb n ts)).toNat, ln, d)))
    (.inl (tS tb n (tE tb n ts), lw, pa + 1, th, tw, tt, ln, upd d (plc lw pa th) (nI (tokN tb ts (tE tb n ts)).toNat)))))
noncomputable def stp (tb : Nat → Int32) (n : Nat) : RS → RS ⊕ RO
  | (ts, lw, pa, th, tw, tt, ln, d) => cif (n ≤ ts) (cif (lw = -1) (.inr (0, -1, ln, d)) (rF 1 n)) (cif (lw = -1) (stW tb n ts th tw tt ln d) (cif (prt lw ≤ pa) (stE tb n ts pa th tw tt ln d) (cif (lw = 4) (stY tb n ts lw pa th tw tt ln d) (stN tb n ts lw pa th tw tt ln d))))
noncomputable def itr (tb : Nat → Int32) (n : Nat) : Nat → RS → RS ⊕ RO
  | 0, σ => .inl σ
  | m + 1, σ => match stp tb n σ with
    | .inl σ' => itr tb n m σ'
    | .inr o => .inr o
def dPl : Nat → Int32 := fun k => [20, 1, 1, 999, 1, 3, 50, 66, 0, 0, -1, -1, -1, -1, -1, -1, -1, -1].getD k 0
noncomputable def rs0 (tb : Nat → Int32) (n : Nat) : RS := (tS tb n 0, -1, 0, 0, 0, 0, 0, dPl)
def rch (tb : Nat → Int32) (n : Nat) (σ : RS) : Prop := ∃ m, itr tb n m (rs0 tb n) = .inl σ
def rOut (tb : Nat → Int32) (n : Nat) (o : RO) : Prop := ∃ m, itr tb n m (rs0 tb n) = .inr o
theorem itr_s {tb : Nat → Int32} {n : Nat} : ∀ (m : Nat) (σ σ' : RS), itr tb n m σ = .inl σ' → itr tb n (m + 1) σ = stp tb n σ'
  | 0, σ, σ', h => by
    cases h
    show (match stp tb n σ with | .inl σ' => itr tb n 0 σ' | .inr o => .inr o) = stp tb n σ
    cases stp tb n σ <;> rfl
  | m + 1, σ, σ', h => by
    have h1 : (match stp tb n σ with | .inl σ' => itr tb n m σ' | .inr o => .inr o) = .inl σ' := h
    show (match stp tb n σ with | .inl σ' => itr tb n (m + 1) σ' | .inr o => .inr o) = stp tb n σ'
    cases hs : stp tb n σ with
    | inl τ => rw [hs] at h1; exact itr_s m τ σ' h1
    | inr o => rw [hs] at h1; cases h1
theorem itr_end {tb : Nat → Int32} {n : Nat} : ∀ (m : Nat) (σ : RS) (o : RO), itr tb n m σ = .inr o → ∀ k, itr tb n (m + k) σ = .inr o
  | 0, σ, o, h, k => by cases h
  | m + 1, σ, o, h, k => by
    have h1 : (match stp tb n σ with | .inl σ' => itr tb n m σ' | .inr o => .inr o) = .inr o := h
    rw [show m + 1 + k = (m + k) + 1 by omega]
    show (match stp tb n σ with | .inl σ' => itr tb n (m + k) σ' | .inr o => .inr o) = .inr o
    cases hs : stp tb n σ with
    | inl τ => rw [hs] at h1; exact itr_end m τ o h1 k
    | inr o2 => rw [hs] at h1; exact h1
theorem rOut_one {tb : Nat → Int32} {n : Nat} {o o2 : RO} (h : rOut tb n o) (h2 : rOut tb n o2) : o = o2 := by
  obtain ⟨m, h⟩ := h
  obtain ⟨m2, h2⟩ := h2
  have q1 := itr_end m _ o h m2
  have q2 := itr_end m2 _ o2 h2 m
  rw [Nat.add_comm] at q2
  exact Sum.inr.inj (q1.symm.trans q2)
theorem rch_0 {tb : Nat → Int32} {n : Nat} : rch tb n (rs0 tb n) := ⟨0, rfl⟩
theorem rch_s {tb : Nat → Int32} {n : Nat} {σ σ' : RS} (h : rch tb n σ) (hs : stp tb n σ = .inl σ') : rch tb n σ' := by
  obtain ⟨m, h⟩ := h
  exact ⟨m + 1, (itr_s m _ σ h).trans hs⟩
theorem rch_e {tb : Nat → Int32} {n : Nat} {σ : RS} {o : RO} (h : rch tb n σ) (hs : stp tb n σ = .inr o) : rOut tb n o := by
  obtain ⟨m, h⟩ := h
  exact ⟨m + 1, (itr_s m _ σ h).trans hs⟩
