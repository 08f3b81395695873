/-! words fitted in lines -/
def sm (v : Nat → Nat) (i : Nat) : Nat → Nat
  | 0 => 0
  | m + 1 => sm v i m + v (i + m)
def lnW (v : Nat → Nat) (i m : Nat) : Int := 2 * ((m : Int) - 1) + (sm v i m : Nat)
theorem lnW_0 (v : Nat → Nat) (i : Nat) : lnW v i 0 = -2 := rfl
theorem lnW_s (v : Nat → Nat) (i m : Nat) : lnW v i (m + 1) = lnW v i m + (2 + (v (i + m) : Nat)) := by
  unfold lnW
  show 2 * (((m + 1 : Nat) : Int) - 1) + ((sm v i m + v (i + m) : Nat) : Int) = _
  omega
theorem lnW_mono (v : Nat → Nat) (i m : Nat) : ∀ k, lnW v i m ≤ lnW v i (m + k)
  | 0 => Int.le_refl _
  | k + 1 => by
    have ih := lnW_mono v i m k
    have := lnW_s v i (m + k)
    rw [show m + (k + 1) = m + k + 1 by omega]
    omega
theorem lnW_pos (v : Nat → Nat) (i : Nat) {m : Nat} (h : 1 ≤ m) : 0 ≤ lnW v i m := by
  unfold lnW; omega
def cst (v : Nat → Nat) (n W : Nat) (G : Nat → Int) (i m : Nat) : Int := if (W : Int) < lnW v i m then -1 else if i + m = n then 0 else if G (i + m) = -1 then -1 else ((W : Int) - lnW v i m) * ((W : Int) - lnW v i m) + G (i + m)
def bst (g : Nat → Int) : Nat → Int × Nat
  | 0 => (-1, 0)
  | m + 1 => if g (m + 1) ≠ -1 ∧ ((bst g m).1 = -1 ∨ g (m + 1) < (bst g m).1) then (g (m + 1), m + 1) else bst g m
def fF (v : Nat → Nat) (n W : Nat) : Nat → Nat → Int
  | 0, _ => -1
  | l + 1, i => (bst (cst v n W (fF v n W l) i) (n - i)).1
def fC (v : Nat → Nat) (n W l i : Nat) : Nat := (bst (cst v n W (fF v n W (l - 1)) i) (n - i)).2
theorem fF_at (v : Nat → Nat) (n W i : Nat) {l : Nat} (h : 1 ≤ l) : fF v n W l i = (bst (cst v n W (fF v n W (l - 1)) i) (n - i)).1 := by
  obtain ⟨k, rfl⟩ : ∃ k, l = k + 1 := ⟨l - 1, by omega⟩
  rfl
theorem bst_y {g : Nat → Int} {m : Nat} (h : g (m + 1) ≠ -1 ∧ ((bst g m).1 = -1 ∨ g (m + 1) < (bst g m).1)) : bst g (m + 1) = (g (m + 1), m + 1) := if_pos h
theorem bst_n {g : Nat → Int} {m : Nat} (h : ¬ (g (m + 1) ≠ -1 ∧ ((bst g m).1 = -1 ∨ g (m + 1) < (bst g m).1))) : bst g (m + 1) = bst g m := if_neg h
theorem bst_all {g : Nat → Int} {m : Nat} : ∀ k, (∀ j, m < j → j ≤ m + k → g j = -1) → bst g (m + k) = bst g m
  | 0, _ => rfl
  | k + 1, h => by
    have ih := bst_all k (fun j a b => h j a (by omega))
    rw [show m + (k + 1) = m + k + 1 by omega, bst_n (fun q => q.1 (h _ (by omega) (by omega))), ih]
theorem bst_spec {g : Nat → Int} : ∀ m, ((bst g m).1 = -1 ∧ (bst g m).2 = 0 ∧ ∀ k, 1 ≤ k → k ≤ m → g k = -1) ∨ ((bst g m).1 ≠ -1 ∧ 1 ≤ (bst g m).2 ∧ (bst g m).2 ≤ m ∧ g (bst g m).2 = (bst g m).1 ∧ (∀ k, 1 ≤ k → k < (bst g m).2 → g k ≠ (bst g m).1) ∧ ∀ k, 1 ≤ k → k ≤ m → g k = -1 ∨ (bst g m).1 ≤ g k)
  | 0 => Or.inl ⟨rfl, rfl, fun k a b => absurd b (by omega)⟩
  | m + 1 => by
    have ih := bst_spec (g := g) m
    by_cases h : g (m + 1) ≠ -1 ∧ ((bst g m).1 = -1 ∨ g (m + 1) < (bst g m).1)
    · rw [bst_y h]
      refine Or.inr ⟨h.1, by show 1 ≤ m + 1; omega, Nat.le_refl _, rfl, fun k a b => ?_, fun k a b => ?_⟩
      · have b1 : k < m + 1 := b
        show g k ≠ g (m + 1)
        rcases ih with ⟨i1, _, i3⟩ | ⟨i1, _, _, _, _, i6⟩
        · rw [i3 k a (by omega)]; exact fun q => h.1 q.symm
        · have := h.2; have := i6 k a (by omega); have := h.1; omega
      · show g k = -1 ∨ g (m + 1) ≤ g k
        by_cases e : k = m + 1
        · subst e; exact Or.inr (Int.le_refl _)
        · rcases ih with ⟨i1, _, i3⟩ | ⟨i1, _, _, _, _, i6⟩
          · exact Or.inl (i3 k a (by omega))
          · have := h.2; have := i6 k a (by omega); omega
    · rw [bst_n h]
      rcases ih with ⟨i1, i2, i3⟩ | ⟨i1, i2, i3, i4, i5, i6⟩
      · refine Or.inl ⟨i1, i2, fun k a b => ?_⟩
        by_cases e : k = m + 1
        · subst e
          by_cases z : g (m + 1) = -1
          · exact z
          · exact absurd ⟨z, Or.inl i1⟩ h
        · exact i3 k a (by omega)
      · refine Or.inr ⟨i1, i2, by omega, i4, i5, fun k a b => ?_⟩
        by_cases e : k = m + 1
        · subst e
          by_cases z : g (m + 1) = -1
          · exact Or.inl z
          · refine Or.inr ?_
            rcases Int.lt_or_le (g (m + 1)) (bst g m).1 with w | w
            · exact absurd ⟨z, Or.inr w⟩ h
            · exact w
        · exact i6 k a (by omega)
theorem sq_b {x : Int} (h0 : 0 ≤ x) (h1 : x ≤ 400) : 0 ≤ x * x ∧ x * x ≤ 160000 :=
  ⟨Int.mul_nonneg h0 h0, Int.le_trans (Int.mul_le_mul h1 h1 h0 (by decide)) (by decide)⟩
theorem cst_b {v : Nat → Nat} {n W : Nat} {G : Nat → Int} {i m : Nat} {B : Int} (hW : W ≤ 400) (hm : 1 ≤ m) (hG : -1 ≤ G (i + m) ∧ G (i + m) ≤ B) (hB : 0 ≤ B) : -1 ≤ cst v n W G i m ∧ cst v n W G i m ≤ B + 160000 := by
  unfold cst
  have hp := lnW_pos v i hm
  by_cases a : (W : Int) < lnW v i m
  · rw [if_pos a]; omega
  · rw [if_neg a]
    by_cases b : i + m = n
    · rw [if_pos b]; omega
    · rw [if_neg b]
      by_cases c : G (i + m) = -1
      · rw [if_pos c]; omega
      · rw [if_neg c]
        have := sq_b (x := (W : Int) - lnW v i m) (by omega) (by omega)
        omega
theorem fF_b {v : Nat → Nat} {n W : Nat} (hW : W ≤ 400) : ∀ l i, -1 ≤ fF v n W l i ∧ fF v n W l i ≤ 160000 * (l : Nat)
  | 0, i => by show (-1 : Int) ≤ -1 ∧ (-1 : Int) ≤ 160000 * ((0 : Nat) : Int); omega
  | l + 1, i => by
    show -1 ≤ (bst (cst v n W (fF v n W l) i) (n - i)).1 ∧ (bst (cst v n W (fF v n W l) i) (n - i)).1 ≤ _
    rcases bst_spec (g := cst v n W (fF v n W l) i) (n - i) with ⟨i1, _, _⟩ | ⟨i1, i2, i3, i4, _, _⟩
    · omega
    · rw [← i4]
      have := cst_b (v := v) (n := n) (i := i) hW i2 (fF_b (v := v) (n := n) hW l _) (by omega)
      omega
theorem cst_inf {v : Nat → Nat} {n W : Nat} {G : Nat → Int} {i m : Nat} (h : (W : Int) < lnW v i m) : ∀ j, m ≤ j → cst v n W G i j = -1 := fun j hj => by
  have := lnW_mono v i m (j - m)
  rw [show m + (j - m) = j by omega] at this
  unfold cst; exact if_pos (by omega)
/-- what stands behind -/
def sbV (fs : Nat → Int32) (n l nx : Nat) : Int := if nx = n then 0 else if 1 < l then (fs ((l - 1) * 41 + nx)).toInt else -1
def fOK (v : Nat → Nat) (n W : Nat) (fs ft : Nat → Int32) (l j : Nat) : Prop := (fs (l * 41 + j)).toInt = fF v n W l j ∧ ft (l * 41 + j) = nI (fC v n W l j)
theorem sb_F {v : Nat → Nat} {n W : Nat} {fs ft : Nat → Int32} {l nx : Nat} (hl : 1 ≤ l) (hn : nx ≤ n) (h : 1 < l → ∀ j, j < n → fOK v n W fs ft (l - 1) j) : sbV fs n l nx = if nx = n then 0 else fF v n W (l - 1) nx := by
  unfold sbV
  by_cases a : nx = n
  · rw [if_pos a, if_pos a]
  · rw [if_neg a, if_neg a]
    by_cases b : 1 < l
    · rw [if_pos b]; exact (h b nx (by omega)).1
    · rw [if_neg b, show l - 1 = 0 by omega]; rfl
/-- the rows that are kept: where line j begins -/
def pos (v : Nat → Nat) (n W L : Nat) : Nat → Nat
  | 0 => 0
  | j + 1 => pos v n W L j + fC v n W (L - j) (pos v n W L j)
theorem fC_in {v : Nat → Nat} {n W l i : Nat} (hl : 1 ≤ l) (hi : i < n) (h : fF v n W l i ≠ -1) : 1 ≤ fC v n W l i ∧ i + fC v n W l i ≤ n ∧ lnW v i (fC v n W l i) ≤ W ∧ (i + fC v n W l i < n → fF v n W (l - 1) (i + fC v n W l i) ≠ -1) := by
  rw [fF_at v n W i hl] at h
  have q := bst_spec (g := cst v n W (fF v n W (l - 1)) i) (n - i)
  rcases q with ⟨i1, _, _⟩ | ⟨i1, i2, i3, i4, _, _⟩
  · exact absurd i1 h
  · have i4' : cst v n W (fF v n W (l - 1)) i (fC v n W l i) = (bst (cst v n W (fF v n W (l - 1)) i) (n - i)).1 := i4
    have i2' : 1 ≤ fC v n W l i := i2
    have i3' : fC v n W l i ≤ n - i := i3
    have hne : cst v n W (fF v n W (l - 1)) i (fC v n W l i) ≠ -1 := by rw [i4']; exact h
    unfold cst at hne
    have h1 : ¬ (W : Int) < lnW v i (fC v n W l i) := fun q => hne (if_pos q)
    rw [if_neg h1] at hne
    refine ⟨i2', by omega, by omega, fun q => ?_⟩
    rw [if_neg (by omega)] at hne
    exact fun z => hne (if_pos z)
def rowP (v : Nat → Nat) (n W L nl : Nat) : Prop := nl ≤ L ∧ pos v n W L nl = n ∧ ∀ j, j < nl → pos v n W L j < n
theorem rowP_one {v : Nat → Nat} {n W L a b : Nat} (h : rowP v n W L a) (h2 : rowP v n W L b) : a = b := by
  rcases Nat.lt_trichotomy a b with q | q | q
  · have := h2.2.2 a q; have := h.2.1; omega
  · exact q
  · have := h.2.2 b q; have := h2.2.1; omega
def hW (v : Nat → Nat) (n W L j : Nat) : Int32 := nI (fC v n W (L - j) (pos v n W L j))
def hX (v : Nat → Nat) (n W L j : Nat) : Int32 := nI (lnW v (pos v n W L j) (fC v n W (L - j) (pos v n W L j))).toNat
/-- lines laid into a row of askings -/
def wrR (f : Nat → Int32) (a nl : Nat) (h : Nat → Int32) : Nat → Int32 := fun k => if a * 8 ≤ k ∧ k < a * 8 + nl then h (k - a * 8) else f k
theorem wrR_0 (f : Nat → Int32) (a : Nat) (h : Nat → Int32) : wrR f a 0 h = f := by
  funext k; unfold wrR; rw [if_neg (by omega)]
theorem wrR_s (f : Nat → Int32) (a nl : Nat) (h : Nat → Int32) {x : Int32} (hx : x = h nl) : upd (wrR f a nl h) (a * 8 + nl) x = wrR f a (nl + 1) h := by
  funext k
  by_cases q : k = a * 8 + nl
  · subst q; rw [pk_us]; unfold wrR; rw [if_pos ⟨by omega, by omega⟩, show a * 8 + nl - a * 8 = nl by omega, hx]
  · rw [pk_un q]; unfold wrR
    by_cases z : a * 8 ≤ k ∧ k < a * 8 + nl
    · rw [if_pos z, if_pos ⟨z.1, by omega⟩]
    · rw [if_neg z, if_neg (fun w => z ⟨w.1, by omega⟩)]
theorem wrR_cong {f : Nat → Int32} {a nl : Nat} {h g : Nat → Int32} (e : ∀ j, j < nl → h j = g j) : wrR f a nl h = wrR f a nl g := by
  funext k; unfold wrR
  by_cases z : a * 8 ≤ k ∧ k < a * 8 + nl
  · rw [if_pos z, if_pos z, e _ (by omega)]
  · rw [if_neg z, if_neg z]
