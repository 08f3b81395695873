/-! bits of longs -/
def lb (x : Int64) (i : Nat) : Bool := x.toBitVec.getLsbD i
theorem lb_ext {x y : Int64} (h : ∀ i, i < 64 → lb x i = lb y i) : x = y := Int64.toBitVec_inj.mp (BitVec.eq_of_getLsbD_eq (fun i hi => h i hi))
theorem lb_big {x : Int64} {i : Nat} (h : 64 ≤ i) : lb x i = false := BitVec.getLsbD_of_ge _ _ h
theorem lb_lt {x : Int64} {i : Nat} (h : lb x i = true) : i < 64 := by
  rcases Nat.lt_or_ge i 64 with q | q
  · exact q
  · rw [lb_big q] at h; cases h
theorem lb_or (x y : Int64) (i : Nat) : lb (x ||| y) i = (lb x i || lb y i) := by unfold lb; rw [Int64.toBitVec_or, BitVec.getLsbD_or]
theorem lb_and (x y : Int64) (i : Nat) : lb (x &&& y) i = (lb x i && lb y i) := by unfold lb; rw [Int64.toBitVec_and, BitVec.getLsbD_and]
theorem lb_xor (x y : Int64) (i : Nat) : lb (x ^^^ y) i = (lb x i ^^ lb y i) := by unfold lb; rw [Int64.toBitVec_xor, BitVec.getLsbD_xor]
theorem lb_0 (i : Nat) : lb 0 i = false := by
  rcases Nat.lt_or_ge i 64 with q | q
  · exact (by decide +kernel : ∀ i, i < 64 → lb 0 i = false) i q
  · exact lb_big q
theorem lb_m1 : ∀ i, i < 64 → lb (-1) i = true := by decide +kernel
theorem lb_1 : ∀ i, i < 64 → lb 1 i = decide (i = 0) := by decide +kernel
theorem lb_not (x : Int64) {i : Nat} (h : i < 64) : lb (x ^^^ (-1)) i = !lb x i := by rw [lb_xor, lb_m1 i h]; simp
theorem lb_ne0 {x : Int64} (h : x ≠ 0) : ∃ i, i < 64 ∧ lb x i = true := Classical.byContradiction fun q => h (lb_ext fun i hi => by
  rw [lb_0]
  cases hb : lb x i with
  | false => rfl
  | true => exact absurd ⟨i, hi, hb⟩ q)
theorem lb_eq0 {x : Int64} (h : ∀ i, i < 64 → lb x i = false) : x = 0 := lb_ext fun i hi => by rw [lb_0]; exact h i hi
theorem lb_lN {n : Nat} (hn : n < 2 ^ 64) (i : Nat) : lb (lN n) i = n.testBit i := by
  unfold lb
  rw [wb_tb]
  rcases Nat.lt_or_ge i 64 with q | q
  · rw [BitVec.getLsbD_ofNat]; simp [q]
  · rw [BitVec.getLsbD_of_ge _ _ q]
    exact (Nat.testBit_lt_two_pow (Nat.lt_of_lt_of_le hn (Nat.pow_le_pow_right (by decide) q))).symm
theorem lb_shl (n : Nat) (hn : n < 64) (x : Int64) {i : Nat} (hi : i < 64) : lb (x <<< ((nI n).toInt64 &&& 63)) i = (decide (n ≤ i) && lb x (i - n)) := by
  rw [wb_c n hn]
  unfold lb
  rw [Int64.toBitVec_shiftLeft, wb_tb, wb_sm n hn, BitVec.shiftLeft_eq', BitVec.getLsbD_shiftLeft, BitVec.toNat_ofNat, Nat.mod_eq_of_lt (show n < 2 ^ 64 by omega)]
  rcases Nat.lt_or_ge i n with h | h
  · simp [h, Nat.not_le.mpr h]
  · simp [hi, h, Nat.not_lt.mpr h]
theorem lb_ushr (n : Nat) (hn : n < 64) (x : Int64) (i : Nat) : lb ((x.toUInt64 >>> ((nI n).toInt64.toUInt64 &&& Int64.toUInt64 63)).toInt64) i = lb x (n + i) := by
  rw [wb_cu n hn]
  show (x.toUInt64 >>> UInt64.ofNat n).toBitVec.getLsbD i = x.toUInt64.toBitVec.getLsbD (n + i)
  rw [UInt64.toBitVec_shiftRight]
  have h : ((UInt64.ofNat n).toBitVec % 64).toNat = n := (by decide +kernel : ∀ n, n < 64 → ((UInt64.ofNat n).toBitVec % 64).toNat = n) n hn
  show (x.toUInt64.toBitVec >>> ((UInt64.ofNat n).toBitVec % 64).toNat).getLsbD i = _
  rw [h, BitVec.getLsbD_ushiftRight]
theorem lb_sshr (n : Nat) (hn : n < 64) (x : Int64) {i : Nat} (hi : n + i < 64) : lb (x >>> ((nI n).toInt64 &&& 63)) i = lb x (n + i) := by
  rw [wb_c n hn]
  unfold lb
  rw [Int64.toBitVec_shiftRight, wb_tb, wb_sm n hn]
  show (x.toBitVec.sshiftRight (BitVec.ofNat 64 n).toNat).getLsbD i = _
  rw [BitVec.toNat_ofNat, Nat.mod_eq_of_lt (show n < 2 ^ 64 by omega), BitVec.getLsbD_sshiftRight]
  simp [hi, Nat.lt_of_le_of_lt (Nat.le_add_left i n) hi]
theorem lb_and1 (x : Int64) : (x &&& 1) = 0 ↔ lb x 0 = false := by
  constructor
  · intro h
    have h1 : lb (x &&& 1) 0 = false := by rw [h]; exact lb_0 0
    rw [lb_and, lb_1 0 (by decide)] at h1
    simpa using h1
  · intro h
    refine lb_eq0 fun i hi => ?_
    rw [lb_and, lb_1 i hi]
    by_cases q : i = 0
    · subst q; simp [h]
    · simp [q]
theorem lb_one_shl (n : Nat) (hn : n < 64) {i : Nat} (hi : i < 64) : lb ((1 : Int64) <<< ((nI n).toInt64 &&& 63)) i = decide (i = n) := by
  rw [lb_shl n hn 1 hi]
  rcases Nat.lt_trichotomy i n with h | h | h
  · simp [Nat.not_le.mpr h, Nat.ne_of_lt h]
  · subst h; simp [lb_1 0 (by decide)]
  · rw [lb_1 (i - n) (by omega)]
    simp [Nat.le_of_lt h, Nat.ne_of_gt h]
    omega
/-- the mask of w ones from place d on -/
theorem lb_mask {w d : Nat} (h : w + d ≤ 63) (i : Nat) : lb (lN ((2 ^ w - 1) * 2 ^ d)) i = decide (d ≤ i ∧ i < d + w) := by
  have h1 : (2 ^ w - 1) * 2 ^ d < 2 ^ 64 := by
    have h2 : 2 ^ w * 2 ^ d = 2 ^ (w + d) := (Nat.pow_add 2 w d).symm
    have h3 : (2 : Nat) ^ (w + d) < 2 ^ 64 := wb_lt2 (by omega)
    have h4 : (2 ^ w - 1) * 2 ^ d ≤ 2 ^ w * 2 ^ d := Nat.mul_le_mul_right _ (Nat.sub_le _ _)
    omega
  rw [lb_lN h1, Nat.mul_comm, Nat.testBit_two_pow_mul]
  rw [Nat.testBit_two_pow_sub_one]
  by_cases q1 : d ≤ i
  · by_cases q2 : i < d + w
    · simp [q1, q2]; omega
    · simp [q1, q2]; omega
  · simp [q1]
/-- a proposition as a Bool -/
noncomputable def pB (P : Prop) : Bool := @decide P (Classical.propDecidable P)
theorem pB_iff {P : Prop} : pB P = true ↔ P := by unfold pB; exact @decide_eq_true_iff P (Classical.propDecidable P)
theorem pB_t {P : Prop} (h : P) : pB P = true := pB_iff.mpr h
theorem pB_f {P : Prop} (h : ¬ P) : pB P = false := by
  cases hb : pB P with
  | false => rfl
  | true => exact absurd (pB_iff.mp hb) h
theorem pB_cong {P Q : Prop} (h : P ↔ Q) : pB P = pB Q := by rw [propext h]
theorem pB_or (P Q : Prop) : pB (P ∨ Q) = (pB P || pB Q) := by
  by_cases hp : P
  · rw [pB_t (Or.inl hp), pB_t hp]; rfl
  · by_cases hq : Q
    · rw [pB_t (Or.inr hq), pB_t hq]; simp
    · rw [pB_f (fun h => h.elim hp hq), pB_f hp, pB_f hq]; rfl
theorem pB_and (P Q : Prop) : pB (P ∧ Q) = (pB P && pB Q) := by
  by_cases hp : P
  · by_cases hq : Q
    · rw [pB_t ⟨hp, hq⟩, pB_t hp, pB_t hq]; rfl
    · rw [pB_f (fun h => hq h.2), pB_f hq]; simp
  · rw [pB_f (fun h => hp h.1), pB_f hp]; rfl
theorem pB_not (P : Prop) : pB (¬ P) = !pB P := by
  by_cases hp : P
  · rw [pB_f (fun h => h hp), pB_t hp]; rfl
  · rw [pB_t hp, pB_f hp]; rfl
/-- an int that is 1 where P holds, 0 where it doesn't -/
noncomputable def pI (P : Prop) : Int32 := @ite Int32 P (Classical.propDecidable P) 1 0
theorem pI_t {P : Prop} (h : P) : pI P = 1 := by unfold pI; exact @if_pos P (Classical.propDecidable P) h Int32 1 0
theorem pI_f {P : Prop} (h : ¬ P) : pI P = 0 := by unfold pI; exact @if_neg P (Classical.propDecidable P) h Int32 1 0
theorem pI_cong {P Q : Prop} (h : P ↔ Q) : pI P = pI Q := by rw [propext h]
section BP
variable {p : Program} {l : Launch} {e : Env} {R : Room} {s : State} {m : MethodId} {args : Array Value} {below : List Frame} {meth : Method} {c : Code} {H : Heap} {locs : List Loc} {cells slots : Nat} {Q : State → Prop}
variable {cc : ByteArray} {pc : Nat} {ls : Array Slot} {rest : List Value}
theorem bw_ifeqP (hexec : p.tables.exec = Jvm.exec) (hb : c.code = cc) {x : Int32} {C : Prop} {off : Int} {tgt : Nat} (hdg : decode cc pc = .ok (.ifCond .eq off, 3)) (ht : (pc : Int) + off = (tgt : Int)) (hr : x = pI C)
    (kt : ¬ C → W p l e R s m args below meth c H locs cells slots Q (F0 m tgt ls rest)) (kf : C → W p l e R s m args below meth c H locs cells slots Q (F0 m (pc + 3) ls rest)) : W p l e R s m args below meth c H locs cells slots Q (F0 m pc ls (.int x :: rest)) :=
  lv_if_eq hexec hb hdg ht (fun h => kt (fun q => by rw [hr, pI_t q] at h; exact absurd h (by decide))) (fun h => kf (Classical.byContradiction fun q => h (by rw [hr, pI_f q])))
theorem bw_ifneP (hexec : p.tables.exec = Jvm.exec) (hb : c.code = cc) {x : Int32} {C : Prop} {off : Int} {tgt : Nat} (hdg : decode cc pc = .ok (.ifCond .ne off, 3)) (ht : (pc : Int) + off = (tgt : Int)) (hr : x = pI C)
    (kt : C → W p l e R s m args below meth c H locs cells slots Q (F0 m tgt ls rest)) (kf : ¬ C → W p l e R s m args below meth c H locs cells slots Q (F0 m (pc + 3) ls rest)) : W p l e R s m args below meth c H locs cells slots Q (F0 m pc ls (.int x :: rest)) :=
  lv_if_ne hexec hb hdg ht (fun h => kt (Classical.byContradiction fun q => h (by rw [hr, pI_f q]))) (fun h => kf (fun q => by rw [hr, pI_t q] at h; exact absurd h (by decide)))
end BP
/-! sites: what a numbering may and surely does -/
def kn (nb : Nat → Int32) (s : Nat) : Nat := (nb s).toInt.toNat
theorem kn_nI {nb : Nat → Int32} {s k : Nat} (h : nb s = nI k) (hk : k ≤ 8) : kn nb s = k := by
  unfold kn; rw [h, nI_toInt (by omega)]; rfl
def sMay (fr tt : Nat → Int32) (E i : Nat) (y : Int) : Prop := (fr i).toInt ≤ y ∧ (i + 1 < E → y < (tt (i + 1)).toInt)
def sSur (fr tt : Nat → Int32) (E i : Nat) (y : Int) : Prop := (tt i).toInt ≤ y ∧ (i + 1 < E → y < (fr (i + 1)).toInt)
def sHit (st nu : Nat → Int32) (t m : Int32) (i : Nat) : Prop := (st i).toInt = t.toInt ∧ (nu i).toInt = m.toInt
/-- of the numberings from b up to e (of a site whose end is E) one with this street and number may hold -/
def sPosTo (fr tt st nu : Nat → Int32) (b e E : Nat) (t m : Int32) (y : Int) : Prop := ∃ i, b ≤ i ∧ i < e ∧ sHit st nu t m i ∧ sMay fr tt E i y
def sSurTo (fr tt st nu : Nat → Int32) (b e E : Nat) (t m : Int32) (y : Int) : Prop := ∃ i, b ≤ i ∧ i < e ∧ sHit st nu t m i ∧ sSur fr tt E i y
def sPos (nb fr tt st nu : Nat → Int32) (s : Nat) (t m : Int32) (y : Int) : Prop := sPosTo fr tt st nu (s * 8) (s * 8 + kn nb s) (s * 8 + kn nb s) t m y
def sSu1 (nb fr tt st nu : Nat → Int32) (s : Nat) (t m : Int32) (y : Int) : Prop := sSurTo fr tt st nu (s * 8) (s * 8 + kn nb s) (s * 8 + kn nb s) t m y
theorem sPosTo_0 {fr tt st nu : Nat → Int32} {b E : Nat} {t m : Int32} {y : Int} : ¬ sPosTo fr tt st nu b b E t m y := fun ⟨i, h1, h2, _⟩ => by omega
theorem sSurTo_0 {fr tt st nu : Nat → Int32} {b E : Nat} {t m : Int32} {y : Int} : ¬ sSurTo fr tt st nu b b E t m y := fun ⟨i, h1, h2, _⟩ => by omega
theorem sPosTo_s {fr tt st nu : Nat → Int32} {b e E : Nat} {t m : Int32} {y : Int} (hb : b ≤ e) : sPosTo fr tt st nu b (e + 1) E t m y ↔ sPosTo fr tt st nu b e E t m y ∨ (sHit st nu t m e ∧ sMay fr tt E e y) := by
  constructor
  · rintro ⟨i, h1, h2, h3, h4⟩
    rcases Nat.lt_or_ge i e with q | q
    · exact Or.inl ⟨i, h1, q, h3, h4⟩
    · have : i = e := by omega
      subst this; exact Or.inr ⟨h3, h4⟩
  · rintro (⟨i, h1, h2, h3, h4⟩ | ⟨h3, h4⟩)
    · exact ⟨i, h1, by omega, h3, h4⟩
    · exact ⟨e, hb, by omega, h3, h4⟩
theorem sSurTo_s {fr tt st nu : Nat → Int32} {b e E : Nat} {t m : Int32} {y : Int} (hb : b ≤ e) : sSurTo fr tt st nu b (e + 1) E t m y ↔ sSurTo fr tt st nu b e E t m y ∨ (sHit st nu t m e ∧ sSur fr tt E e y) := by
  constructor
  · rintro ⟨i, h1, h2, h3, h4⟩
    rcases Nat.lt_or_ge i e with q | q
    · exact Or.inl ⟨i, h1, q, h3, h4⟩
    · have : i = e := by omega
      subst this; exact Or.inr ⟨h3, h4⟩
  · rintro (⟨i, h1, h2, h3, h4⟩ | ⟨h3, h4⟩)
    · exact ⟨i, h1, by omega, h3, h4⟩
    · exact ⟨e, hb, by omega, h3, h4⟩
/-- what is known of the numberings of the first n sites -/
def sOK (nb fr tt : Nat → Int32) (n : Nat) : Prop := n ≤ 40 ∧ (∀ s, n ≤ s → nb s = 0) ∧ ∀ s, s < n → ∃ k, nb s = nI k ∧ 1 ≤ k ∧ k ≤ 8 ∧ ∀ i, s * 8 ≤ i → i < s * 8 + k → 1500 ≤ (fr i).toInt ∧ (fr i).toInt ≤ (tt i).toInt ∧ (tt i).toInt ≤ 2100
/-- the same of one site -/
def sOK1 (fr tt : Nat → Int32) (s k : Nat) : Prop := ∀ i, s * 8 ≤ i → i < s * 8 + k → 1500 ≤ (fr i).toInt ∧ (fr i).toInt ≤ (tt i).toInt ∧ (tt i).toInt ≤ 2100
theorem nI_back {z : Int32} {n : Nat} (h : z.toInt = (n : Int)) : z = nI n := by
  have h2 := (fb_rng z).2
  exact (fa_eq _ _).mpr (by rw [h, nI_toInt (by omega)])
/-- bits of years: what yearBits lays -/
theorem yb_bits {x : Int64} {z z2 : Int32} {f lo hi : Int} (hf : f ≤ lo) (hlh : lo ≤ hi) (hsp : hi - f ≤ 59) (hz : z.toInt = hi - lo + 1) (hz2 : z2.toInt = lo - f) (hx : x = ((1 : Int64) <<< (z.toInt64 &&& 63) - 1) <<< (z2.toInt64 &&& 63)) (b : Nat) : lb x b = true ↔ lo ≤ f + b ∧ f + b ≤ hi := by
  obtain ⟨w, hw⟩ : ∃ w : Nat, (w : Int) = hi - lo + 1 := ⟨(hi - lo + 1).toNat, by omega⟩
  obtain ⟨d, hd⟩ : ∃ d : Nat, (d : Int) = lo - f := ⟨(lo - f).toNat, by omega⟩
  have e1 : z = nI w := nI_back (by omega)
  have e2 : z2 = nI d := nI_back (by omega)
  have h1 : (1 : Int64) <<< ((nI w).toInt64 &&& 63) = lN (2 ^ w) := by
    have := wb_shl 1 (k := w) (by omega)
    rw [Nat.one_mul] at this
    exact this
  have h2 : lN (2 ^ w) - 1 = lN (2 ^ w - 1) := lN_sub (Nat.one_le_two_pow)
  rw [hx, e1, e2, h1, h2, wb_shl _ (by omega), lb_mask (by omega)]
  rw [decide_eq_true_iff]
  omega
def sNumTo (fr tt nu : Nat → Int32) (b e E : Nat) (y : Int) : Prop := ∃ i, b ≤ i ∧ i < e ∧ (nu i).toInt ≠ 0 ∧ sSur fr tt E i y
theorem sNumTo_0 {fr tt nu : Nat → Int32} {b E : Nat} {y : Int} : ¬ sNumTo fr tt nu b b E y := fun ⟨i, h1, h2, _⟩ => by omega
theorem sNumTo_s {fr tt nu : Nat → Int32} {b e E : Nat} {y : Int} (hb : b ≤ e) : sNumTo fr tt nu b (e + 1) E y ↔ sNumTo fr tt nu b e E y ∨ ((nu e).toInt ≠ 0 ∧ sSur fr tt E e y) := by
  constructor
  · rintro ⟨i, h1, h2, h3, h4⟩
    rcases Nat.lt_or_ge i e with q | q
    · exact Or.inl ⟨i, h1, q, h3, h4⟩
    · have : i = e := by omega
      subst this; exact Or.inr ⟨h3, h4⟩
  · rintro (⟨i, h1, h2, h3, h4⟩ | ⟨h3, h4⟩)
    · exact ⟨i, h1, by omega, h3, h4⟩
    · exact ⟨e, hb, by omega, h3, h4⟩
