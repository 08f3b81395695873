theorem stp_W {tb : Nat → Int32} {n ts pa th tw tt ln : Nat} {lw : Int} {d : Nat → Int32} (h : ts < n) (hl : lw = -1) : stp tb n (ts, lw, pa, th, tw, tt, ln, d) = stW tb n ts th tw tt ln d := (cif_f (by omega)).trans (cif_t hl)
theorem stp_E {tb : Nat → Int32} {n ts pa th tw tt ln : Nat} {lw : Int} {d : Nat → Int32} (h : ts < n) (hl : lw ≠ -1) (hp : prt lw ≤ pa) : stp tb n (ts, lw, pa, th, tw, tt, ln, d) = stE tb n ts pa th tw tt ln d := (cif_f (by omega)).trans ((cif_f hl).trans (cif_t hp))
theorem stp_Y {tb : Nat → Int32} {n ts pa th tw tt ln : Nat} {lw : Int} {d : Nat → Int32} (h : ts < n) (hl : lw ≠ -1) (hp : pa < prt lw) (h4 : lw = 4) : stp tb n (ts, lw, pa, th, tw, tt, ln, d) = stY tb n ts lw pa th tw tt ln d := (cif_f (by omega)).trans ((cif_f hl).trans ((cif_f (by omega)).trans (cif_t h4)))
theorem stp_N {tb : Nat → Int32} {n ts pa th tw tt ln : Nat} {lw : Int} {d : Nat → Int32} (h : ts < n) (hl : lw ≠ -1) (hp : pa < prt lw) (h4 : lw ≠ 4) : stp tb n (ts, lw, pa, th, tw, tt, ln, d) = stN tb n ts lw pa th tw tt ln d := (cif_f (by omega)).trans ((cif_f hl).trans ((cif_f (by omega)).trans (cif_f h4)))
theorem stp_end {tb : Nat → Int32} {n ts pa th tw tt ln : Nat} {lw : Int} {d : Nat → Int32} (h : n ≤ ts) (hl : lw = -1) : stp tb n (ts, lw, pa, th, tw, tt, ln, d) = .inr (0, -1, ln, d) := (cif_t h).trans (cif_t hl)
theorem stp_cut {tb : Nat → Int32} {n ts pa th tw tt ln : Nat} {lw : Int} {d : Nat → Int32} (h : n ≤ ts) (hl : lw ≠ -1) : stp tb n (ts, lw, pa, th, tw, tt, ln, d) = rF 1 n := (cif_t h).trans (cif_f hl)
/-- what taking a token does -/
def tkP (tb : Nat → Int32) (n ts : Nat) (lw : Int) (pa th tw tt ln : Nat) (d : Nat → Int32) (r : Int) (te : Nat) (lw2 : Int) (pa2 th2 tw2 tt2 ln2 : Nat) (d2 : Nat → Int32) : Prop := (r = 0 ∧ stp tb n (ts, lw, pa, th, tw, tt, ln, d) = .inl (tS tb n te, lw2, pa2, th2, tw2, tt2, ln2, d2)) ∨ (r ≠ 0 ∧ stp tb n (ts, lw, pa, th, tw, tt, ln, d) = rF r ts)
theorem bit_at : ∀ m, m < 256 → ∀ j, j < 8 → ((nI m >>> (nI j &&& 31)) &&& 1).toInt = (if m.testBit j then 1 else 0 : Int) := by decide +kernel
theorem one_shl8 : ∀ j, j < 8 → (1 : Int32) <<< (nI j &&& 31) = nI (2 ^ j) := by decide +kernel
theorem or256 : ∀ a, a < 256 → ∀ j, j < 8 → a ||| 2 ^ j < 256 := by decide +kernel
theorem bit_t {m j : Nat} {z : Int32} (hm : m < 256) (hj : j < 8) (hz : z = (nI m >>> (nI j &&& 31)) &&& 1) (h : z.toInt ≠ 0) : m.testBit j = true := by
  rw [hz, bit_at m hm j hj] at h
  cases hb : m.testBit j with
  | true => rfl
  | false => rw [hb] at h; exact absurd rfl h
theorem bit_f {m j : Nat} {z : Int32} (hm : m < 256) (hj : j < 8) (hz : z = (nI m >>> (nI j &&& 31)) &&& 1) (h : z.toInt = 0) : ¬ m.testBit j = true := by
  rw [hz, bit_at m hm j hj] at h
  intro hb
  rw [hb] at h; exact absurd h (by decide)
/-- two rows of rules say the same where rules stand -/
def agr (f g : Nat → Int32) : Prop := ∀ k, k < 18 → k ≠ 8 → k ≠ 9 → f k = g k
theorem agr_upd {f g : Nat → Int32} (h : agr f g) (p : Nat) (v : Int32) : agr (upd f p v) (upd g p v) := fun k h1 h2 h3 => by
  by_cases q : k = p
  · subst q; rw [pk_us, pk_us]
  · rw [pk_un q, pk_un q]; exact h k h1 h2 h3
def rgs (f : Nat → Int32) : Prop := (0 ≤ (f 5).toInt ∧ (f 5).toInt ≤ 999) ∧ (0 ≤ (f 6).toInt ∧ (f 6).toInt ≤ 100) ∧ 0 ≤ (f 7).toInt ∧ (f 7).toInt ≤ 100
theorem rgs_upd {f : Nat → Int32} {p : Nat} {v : Int32} (h : rgs f) (hv : 0 ≤ v.toInt) (h5 : p = 5 → v.toInt ≤ 999) (h6 : p = 6 → v.toInt ≤ 100) (h7 : p = 7 → v.toInt ≤ 100) : rgs (upd f p v) := by
  have q : ∀ k, upd f p v k = if k = p then v else f k := fun k => by
    by_cases q : k = p
    · rw [if_pos q, q, pk_us]
    · rw [if_neg q, pk_un q]
  unfold rgs at h ⊢
  rw [q 5, q 6, q 7]
  refine ⟨?_, ?_, ?_⟩
  · by_cases z : 5 = p
    · rw [if_pos z]; have := h5 z.symm; omega
    · rw [if_neg z]; exact h.1
  · by_cases z : 6 = p
    · rw [if_pos z]; have := h6 z.symm; omega
    · rw [if_neg z]; exact h.2.1
  · by_cases z : 7 = p
    · rw [if_pos z]; have := h7 z.symm; omega
    · rw [if_neg z]; exact h.2.2
def rI (lw : Int) (pa tw tt : Nat) : Prop := -1 ≤ lw ∧ lw ≤ 7 ∧ pa ≤ 2 ∧ tw < 256 ∧ tt < 256
theorem plc_b {lw : Int} {pa th : Nat} (h1 : 0 ≤ lw) (h2 : lw ≤ 7) (h3 : lw = 7 → th < 8) : plc lw pa th < 18 := by
  unfold plc
  by_cases a : lw = 5
  · rw [if_pos a]; by_cases b : pa = 0
    · rw [if_pos b]; omega
    · rw [if_neg b]; omega
  · rw [if_neg a]
    by_cases b : lw = 6
    · rw [if_pos b]; omega
    · rw [if_neg b]
      by_cases c : lw = 7
      · rw [if_pos c]; have := h3 c; omega
      · rw [if_neg c]; omega
theorem plc_5 {lw : Int} {pa th : Nat} (h1 : 0 ≤ lw) (h2 : lw ≤ 7) (h4 : lw ≠ 4) : (plc lw pa th = 5 → mst lw pa ≤ 999) ∧ (plc lw pa th = 6 → mst lw pa ≤ 100) ∧ (plc lw pa th = 7 → mst lw pa ≤ 100) := by
  unfold plc mst
  have hc : lw = 0 ∨ lw = 1 ∨ lw = 2 ∨ lw = 3 ∨ lw = 5 ∨ lw = 6 ∨ lw = 7 := by omega
  rcases hc with e | e | e | e | e | e | e <;> subst e <;> by_cases b : pa = 0 <;> simp [b] <;> omega
theorem tokN_rng {tb : Nat → Int32} {n ts te : Nat} (hte : tEnd tb n ts te) (h1 : ts < n) : tokN tb ts te = -1 ∨ (0 ≤ tokN tb ts te ∧ tokN tb ts te ≤ 9999) := by
  by_cases h : te ≤ ts + 4 ∧ 48 ≤ (tb ts).toInt ∧ (tb ts).toInt ≤ 57
  · refine Or.inr ?_
    rw [tokN_yes h]
    exact vN_4 (by omega) (fun k hk => ((hte.2.1 ⟨h1, h.2⟩).2.1 (ts + k) (by omega) (by omega)).2)
  · exact Or.inl (tokN_no h)
/-- the draft as it is told by nothing -/
def plP (f : Nat → Int32) (k : Nat) : Prop := ∀ j, j < k → f (10 + j) = -1
theorem agr_pl {f : Nat → Int32} (h0 : f 0 = 20) (h1 : f 1 = 1) (h2 : f 2 = 1) (h3 : f 3 = 999) (h4 : f 4 = 1) (h5 : f 5 = 3) (h6 : f 6 = 50) (h7 : f 7 = 66) (h : plP f 8) : agr f dPl := by
  intro k hk a b
  have hc : k = 0 ∨ k = 1 ∨ k = 2 ∨ k = 3 ∨ k = 4 ∨ k = 5 ∨ k = 6 ∨ k = 7 ∨ (10 ≤ k ∧ k < 18) := by omega
  rcases hc with e | e | e | e | e | e | e | e | e
  · subst e; exact h0
  · subst e; exact h1
  · subst e; exact h2
  · subst e; exact h3
  · subst e; exact h4
  · subst e; exact h5
  · subst e; exact h6
  · subst e; exact h7
  · have q := h (k - 10) (by omega)
    rw [show 10 + (k - 10) = k by omega] at q
    rw [q]
    have hc : k = 10 ∨ k = 11 ∨ k = 12 ∨ k = 13 ∨ k = 14 ∨ k = 15 ∨ k = 16 ∨ k = 17 := by omega
    rcases hc with e | e | e | e | e | e | e | e <;> subst e <;> rfl
theorem rgs_pl {f : Nat → Int32} (h : agr f dPl) : rgs f := by
  unfold rgs
  rw [h 5 (by omega) (by omega) (by omega), h 6 (by omega) (by omega) (by omega), h 7 (by omega) (by omega) (by omega)]
  decide
/-- what read leaves -/
def rdP (tb : Nat → Int32) (n : Nat) (fk fp : Int) (ln : Nat) (dt : Nat → Int32) : Prop := (fk = 0 ∧ fp = -1 ∧ rgs dt ∧ ∃ d, rOut tb n (0, -1, ln, d) ∧ agr dt d) ∨ (fk ≠ 0 ∧ rOut tb n (fk, fp, 0, fun _ => 0))
/-- what rules does and answers -/
def rulP (tb : Nat → Int32) (n : Nat) (r fk fp : Int32) (tl tl2 : Nat → Int32) : Prop := (r = -1 ∧ fk.toInt ≠ 0 ∧ rOut tb n (fk.toInt, fp.toInt, 0, fun _ => 0) ∧ tl2 = tl) ∨ (fk.toInt = 0 ∧ fp.toInt = -1 ∧ ∃ ln d, r = nI ln ∧ rOut tb n (0, -1, ln, d) ∧ agr tl2 d)
theorem rulP_one {tb : Nat → Int32} {n : Nat} {r fk fp r' fk' fp' : Int32} {tl tl2 tm tm2 : Nat → Int32} (h : rulP tb n r fk fp tl tl2) (h' : rulP tb n r' fk' fp' tm tm2) (ha : agr tl tm) : r = r' ∧ fk = fk' ∧ fp = fp' ∧ agr tl2 tm2 := by
  rcases h with ⟨a1, a2, a3, a4⟩ | ⟨a1, a2, ln, d, a3, a4, a5⟩ <;> rcases h' with ⟨b1, b2, b3, b4⟩ | ⟨b1, b2, ln', d', b3, b4, b5⟩
  · have q := rOut_one a3 b3
    have q1 : fk.toInt = fk'.toInt := congrArg Prod.fst q
    have q2 : fp.toInt = fp'.toInt := congrArg (fun z => z.2.1) q
    exact ⟨by rw [a1, b1], (fa_eq _ _).mpr q1, (fa_eq _ _).mpr q2, by rw [a4, b4]; exact ha⟩
  · have q := rOut_one a3 b4
    exact absurd (congrArg Prod.fst q) a2
  · have q := rOut_one a4 b3
    exact absurd (congrArg Prod.fst q).symm b2
  · have q := rOut_one a4 b4
    have q1 : ln = ln' := congrArg (fun z => z.2.2.1) q
    have q2 : d = d' := congrArg (fun z => z.2.2.2) q
    refine ⟨by rw [a3, b3, q1], (fa_eq _ _).mpr (by rw [a1, b1]), (fa_eq _ _).mpr (by rw [a2, b2]), fun k h1 h2 h3 => ?_⟩
    rw [a5 k h1 h2 h3, b5 k h1 h2 h3, q2]
