/-! words of a plaque: widths, splitting, years -/
def wdt (x : Int) : Nat := if (x = 105 ∨ x = 108 ∨ x = 106 ∨ x = 46 ∨ x = 44 ∨ x = 39 ∨ x = 33) then 2 else if (x = 109 ∨ x = 119 ∨ x = 77 ∨ x = 87) then 6 else if ((97 ≤ x ∧ x ≤ 122) ∨ (48 ≤ x ∧ x ≤ 57)) then 4 else if (65 ≤ x ∧ x ≤ 90) then 5 else 3
theorem wdt_b (x : Int) : wdt x ≤ 6 := by
  unfold wdt
  split
  · omega
  · split
    · omega
    · split
      · omega
      · split <;> omega
def wBl (x : Int) : Prop := x = 32 ∨ x = 10
def wBad (x : Int) (b w : Nat) : Prop := x < 33 ∨ 126 < x ∨ 24 ≤ b ∨ (b = 0 ∧ 40 ≤ w)
def wAdd (v : Nat → Nat) (b w c : Nat) : Nat → Nat := if b = 0 then (fun k => if k = w then c else v k) else (fun k => if k = w - 1 then v k + c else v k)
noncomputable def wdS (tb : Nat → Int32) : Nat → Option (Nat × Nat × (Nat → Nat))
  | 0 => some (0, 0, fun _ => 0)
  | i + 1 => match wdS tb i with
    | none => none
    | some (b, w, v) => cif (wBl (tb i).toInt) (some (0, w, v)) (cif (wBad (tb i).toInt b w) none (some (b + 1, if b = 0 then w + 1 else w, wAdd v b w (wdt (tb i).toInt))))
theorem ws_bl {tb : Nat → Int32} {i b w : Nat} {v : Nat → Nat} (h : wdS tb i = some (b, w, v)) (hx : wBl (tb i).toInt) : wdS tb (i + 1) = some (0, w, v) := by
  show (match wdS tb i with | none => none | some (b, w, v) => cif (wBl (tb i).toInt) (some (0, w, v)) (cif (wBad (tb i).toInt b w) none (some (b + 1, if b = 0 then w + 1 else w, wAdd v b w (wdt (tb i).toInt))))) = _
  rw [h]; exact cif_t hx
theorem ws_bad {tb : Nat → Int32} {i b w : Nat} {v : Nat → Nat} (h : wdS tb i = some (b, w, v)) (hx : ¬ wBl (tb i).toInt) (hb : wBad (tb i).toInt b w) : wdS tb (i + 1) = none := by
  show (match wdS tb i with | none => none | some (b, w, v) => cif (wBl (tb i).toInt) (some (0, w, v)) (cif (wBad (tb i).toInt b w) none (some (b + 1, if b = 0 then w + 1 else w, wAdd v b w (wdt (tb i).toInt))))) = _
  rw [h]; exact (cif_f hx).trans (cif_t hb)
theorem ws_ok {tb : Nat → Int32} {i b w : Nat} {v : Nat → Nat} (h : wdS tb i = some (b, w, v)) (hx : ¬ wBl (tb i).toInt) (hb : ¬ wBad (tb i).toInt b w) : wdS tb (i + 1) = some (b + 1, if b = 0 then w + 1 else w, wAdd v b w (wdt (tb i).toInt)) := by
  show (match wdS tb i with | none => none | some (b, w, v) => cif (wBl (tb i).toInt) (some (0, w, v)) (cif (wBad (tb i).toInt b w) none (some (b + 1, if b = 0 then w + 1 else w, wAdd v b w (wdt (tb i).toInt))))) = _
  rw [h]; exact (cif_f hx).trans (cif_f hb)
theorem ws_none {tb : Nat → Int32} {i : Nat} (h : wdS tb i = none) : ∀ k, wdS tb (i + k) = none
  | 0 => h
  | k + 1 => by
    have ih := ws_none h k
    show (match wdS tb (i + k) with | none => none | some (b, w, v) => cif (wBl (tb (i + k)).toInt) (some (0, w, v)) (cif (wBad (tb (i + k)).toInt b w) none (some (b + 1, if b = 0 then w + 1 else w, wAdd v b w (wdt (tb (i + k)).toInt))))) = _
    rw [ih]
theorem ws_no {tb : Nat → Int32} {i n b w : Nat} {v : Nat → Nat} (h : wdS tb i = some (b, w, v)) (hx : ¬ wBl (tb i).toInt) (hb : wBad (tb i).toInt b w) (hi : i < n) : wdS tb n = none := by
  have q := ws_none (ws_bad h hx hb) (n - (i + 1))
  rw [show i + 1 + (n - (i + 1)) = n by omega] at q
  exact q
def wB (b w : Nat) (v : Nat → Nat) : Prop := b ≤ 24 ∧ w ≤ 40 ∧ (b ≠ 0 → 1 ≤ w ∧ v (w - 1) ≤ 6 * b) ∧ ∀ k, k < w → v k ≤ 144
theorem ws_b {tb : Nat → Int32} : ∀ i b w v, wdS tb i = some (b, w, v) → wB b w v
  | 0, b, w, v, h => by
    have h1 : (some (0, 0, fun _ => 0) : Option (Nat × Nat × (Nat → Nat))) = some (b, w, v) := h
    cases h1
    exact ⟨by omega, by omega, fun q => absurd rfl q, fun k hk => absurd hk (Nat.not_lt_zero _)⟩
  | i + 1, b, w, v, h => by
    cases hi : wdS tb i with
    | none => have := ws_none hi 1; rw [this] at h; cases h
    | some s =>
      obtain ⟨b0, w0, v0⟩ := s
      obtain ⟨i1, i2, i3, i4⟩ := ws_b i b0 w0 v0 hi
      by_cases hx : wBl (tb i).toInt
      · rw [ws_bl hi hx] at h; cases h
        exact ⟨by omega, i2, fun q => absurd rfl q, i4⟩
      · by_cases hb : wBad (tb i).toInt b0 w0
        · rw [ws_bad hi hx hb] at h; cases h
        · rw [ws_ok hi hx hb] at h
          have hc := wdt_b (tb i).toInt
          unfold wBad at hb
          by_cases e : b0 = 0
          · subst e
            rw [if_pos rfl] at h; cases h
            refine ⟨by omega, by omega, fun _ => ⟨by omega, ?_⟩, fun k hk => ?_⟩
            · show wAdd v0 0 w0 _ (w0 + 1 - 1) ≤ _
              unfold wAdd; rw [if_pos rfl]
              show (if w0 + 1 - 1 = w0 then _ else _) ≤ _
              rw [if_pos (by omega)]; omega
            · unfold wAdd; rw [if_pos rfl]
              show (if k = w0 then _ else _) ≤ _
              by_cases q : k = w0
              · rw [if_pos q]; omega
              · rw [if_neg q]; exact i4 k (by omega)
          · rw [if_neg e] at h; cases h
            have j3 := i3 e
            refine ⟨by omega, i2, fun _ => ⟨j3.1, ?_⟩, fun k hk => ?_⟩
            · unfold wAdd; rw [if_neg e]
              show (if w - 1 = w - 1 then _ else _) ≤ _
              rw [if_pos rfl]; omega
            · unfold wAdd; rw [if_neg e]
              show (if k = w - 1 then _ else _) ≤ _
              by_cases q : k = w - 1
              · rw [if_pos q, q]; omega
              · rw [if_neg q]; exact i4 k hk
def wR (f : Nat → Int32) (w : Nat) (v : Nat → Nat) : Prop := ∀ k, k < w → f k = nI (v k)
theorem wR_s {f : Nat → Int32} {b w c : Nat} {v : Nat → Nat} (h : wR f w v) (hb : b ≠ 0) : wR (upd f (w - 1) (nI (v (w - 1) + c))) w (wAdd v b w c) := fun k hk => by
  unfold wAdd; rw [if_neg hb]
  show _ = nI (if k = w - 1 then _ else _)
  by_cases q : k = w - 1
  · rw [if_pos q, q, pk_us]
  · rw [if_neg q, pk_un q]; exact h k hk
theorem wR_0 {f : Nat → Int32} {b w c : Nat} {v : Nat → Nat} (h : wR f w v) (hb : b = 0) : wR (upd (upd f w 0) (w + 1 - 1) (nI (0 + c))) (w + 1) (wAdd v b w c) := fun k hk => by
  unfold wAdd; rw [if_pos hb]
  show _ = nI (if k = w then _ else _)
  by_cases q : k = w
  · rw [if_pos q, q, show w + 1 - 1 = w by omega, pk_us, Nat.zero_add]
  · rw [if_neg q, pk_un (by omega), pk_un q]; exact h k (by omega)
/-- what splitting answers and leaves -/
def wdP (tb : Nat → Int32) (n : Nat) (r : Int32) (w : Nat) (f : Nat → Int32) : Prop := (∃ b v, wdS tb n = some (b, w, v) ∧ wR f w v ∧ r = pI (0 < w)) ∨ (wdS tb n = none ∧ r = 0)
/-! years in the words -/
def mxR (tb : Nat → Int32) (n a b : Nat) : Prop := (a = 0 ∨ ¬ bDg tb n (a - 1)) ∧ isRun (bDg tb n) a b
def okTo (tb : Nat → Int32) (n : Nat) (S : Int → Prop) (i : Nat) : Prop := ∀ a, mxR tb n a (a + 4) → a + 4 < i → S (vN tb a 4)
def aSure (tb : Nat → Int32) (n : Nat) (S : Int → Prop) : Prop := ∀ a, mxR tb n a (a + 4) → S (vN tb a 4)
theorem ok_0 {tb : Nat → Int32} {n : Nat} {S : Int → Prop} : okTo tb n S 0 := fun a _ h => absurd h (Nat.not_lt_zero _)
theorem ok_all {tb : Nat → Int32} {n : Nat} {S : Int → Prop} (h : okTo tb n S (n + 1)) : aSure tb n S := fun a ha => h a ha (by have := (ha.2.2.1 (a + 3) (by omega) (by omega)).1; omega)
/-- the run of digits that ends at i -/
def cur (tb : Nat → Int32) (n i rn : Nat) : Prop := rn ≤ i ∧ (∀ k, i - rn ≤ k → k < i → bDg tb n k) ∧ (i = rn ∨ ¬ bDg tb n (i - rn - 1))
theorem cur_0 {tb : Nat → Int32} {n : Nat} : cur tb n 0 0 := ⟨Nat.le_refl _, fun k _ h => absurd h (Nat.not_lt_zero _), Or.inl rfl⟩
theorem cur_d {tb : Nat → Int32} {n i rn : Nat} (h : cur tb n i rn) (hd : bDg tb n i) : cur tb n (i + 1) (rn + 1) := by
  obtain ⟨h1, h2, h3⟩ := h
  refine ⟨by omega, fun k a b => ?_, ?_⟩
  · by_cases q : k = i
    · rw [q]; exact hd
    · exact h2 k (by omega) (by omega)
  · rw [show i + 1 - (rn + 1) - 1 = i - rn - 1 by omega]
    rcases h3 with e | e
    · exact Or.inl (by omega)
    · exact Or.inr e
theorem cur_n {tb : Nat → Int32} {n i : Nat} (hd : ¬ bDg tb n i) : cur tb n (i + 1) 0 := ⟨by omega, fun k a b => absurd b (by omega), Or.inr (by rw [show i + 1 - 0 - 1 = i by omega]; exact hd)⟩
theorem ok_d {tb : Nat → Int32} {n i : Nat} {S : Int → Prop} (h : okTo tb n S i) (hd : bDg tb n i) : okTo tb n S (i + 1) := fun a ha hi => by
  by_cases q : a + 4 = i
  · exact absurd hd (by rw [← q]; exact ha.2.2.2)
  · exact h a ha (by omega)
theorem cur_max {tb : Nat → Int32} {n i rn : Nat} (h : cur tb n i rn) (hd : ¬ bDg tb n i) : mxR tb n (i - rn) i := by
  obtain ⟨h1, h2, h3⟩ := h
  refine ⟨?_, by omega, h2, hd⟩
  rcases h3 with e | e
  · exact Or.inl (by omega)
  · exact Or.inr e
theorem cur_of {tb : Nat → Int32} {n i rn a : Nat} (h : cur tb n i rn) (ha : mxR tb n a (a + 4)) (hi : a + 4 = i) : rn = 4 := by
  obtain ⟨h1, h2, h3⟩ := h
  obtain ⟨g1, g2, g3, g4⟩ := ha
  rcases Nat.lt_trichotomy rn 4 with q | q | q
  · exfalso
    rcases h3 with e | e
    · omega
    · exact e (g3 (i - rn - 1) (by omega) (by omega))
  · exact q
  · exfalso
    rcases g1 with e | e
    · omega
    · exact e (h2 (a - 1) (by omega) (by omega))
theorem ok_n {tb : Nat → Int32} {n i rn : Nat} {S : Int → Prop} (h : okTo tb n S i) (hc : cur tb n i rn) (hs : rn = 4 → S (vN tb (i - 4) 4)) : okTo tb n S (i + 1) := fun a ha hi => by
  by_cases q : a + 4 = i
  · have e := hs (cur_of hc ha q)
    rw [show i - 4 = a by omega] at e; exact e
  · exact h a ha (by omega)
theorem ok_r {tb : Nat → Int32} {n k to : Nat} {S : Int → Prop} (h : okTo tb n S k) (h0 : k = 0 ∨ ¬ bDg tb n (k - 1)) (hr : isRun (bDg tb n) k to) (hs : to = k + 4 → S (vN tb k 4)) : okTo tb n S (to + 1) := fun a ha hi => by
  obtain ⟨g1, g2, g3, g4⟩ := ha
  rcases Nat.lt_or_ge (a + 4) k with q | q
  · exact h a ⟨g1, g2, g3, g4⟩ q
  · have hak : k ≤ a := by
      rcases Nat.lt_or_ge a k with z | z
      · rcases h0 with e | e
        · omega
        · exact absurd (g3 (k - 1) (by omega) (by omega)) e
      · exact z
    have hka : a = k := by
      rcases Nat.lt_or_ge k a with z | z
      · rcases g1 with e | e
        · omega
        · exact absurd (hr.2.1 (a - 1) (by omega) (by omega)) e
      · omega
    subst hka
    exact hs (isRun_one hr ⟨g2, g3, g4⟩)
theorem ok_end {tb : Nat → Int32} {n k : Nat} {S : Int → Prop} (h : okTo tb n S k) (h0 : k = 0 ∨ ¬ bDg tb n (k - 1)) (hk : n ≤ k) : aSure tb n S := fun a ha => by
  have q := (ha.2.2.1 (a + 3) (by omega) (by omega)).1
  rcases Nat.lt_or_ge (a + 4) k with z | z
  · exact h a ha z
  · rcases h0 with e | e
    · omega
    · exact absurd (ha.2.2.1 (k - 1) (by omega) (by omega)) e
/-- a year that is sure -/
def sureY (bo di : Nat → Int32) (L : Nat → Bool) (p : Nat) (y : Int) : Prop := y = (bo p).toInt ∨ y = (di p).toInt ∨ ((1500 ≤ y ∧ y ≤ 2100) ∧ L (y - 1500).toNat = true)
