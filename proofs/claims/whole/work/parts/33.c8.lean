/-! what speaks against an asking -/
theorem lst_rng {p : Nat → Bool} {r : Int32} (h : lstIs p r) : -1 ≤ r.toInt ∧ r.toInt ≤ 2100 := by
  rcases h with ⟨i, h1, _, _, h4⟩ | ⟨h1, _⟩
  · rw [h4, nI_toInt (by omega)]; omega
  · rw [h1]; decide
noncomputable def facts (nb fr tt st nu : Nat → Int32) (sn : Nat) (qp qs qt qm qf ql qx mk : Nat → Int32) (qn : Nat) (di tl ap as_ ay : Nat → Int32) (a1 : Nat) : Int32 := fA (fb_ct (lvB (liv qp qt qm qf ql qx mk (fun t9 m9 y9 => sOnly nb fr tt st nu sn ((as_ a1).toInt.toNat) t9 m9 y9) qn ((ap a1).toInt.toNat))) 601) (fb_ct (fun j9 => pB (src qp qs qt qm qf ql qx mk (fun t9 m9 y9 => sOnly nb fr tt st nu sn ((as_ a1).toInt.toNat) t9 m9 y9) qn ((ap a1).toInt.toNat) j9)) 6) (lvB (liv qp qt qm qf ql qx mk (fun t9 m9 y9 => sOnly nb fr tt st nu sn ((as_ a1).toInt.toNat) t9 m9 y9) qn ((ap a1).toInt.toNat))) (di ((ap a1).toInt.toNat)).toInt (ay a1).toInt (tl 0).toInt (tl 1).toInt (tl 2).toInt (tl 3).toInt (¬ sNumTo fr tt nu ((as_ a1).toInt.toNat * 8) ((as_ a1).toInt.toNat * 8 + kn nb ((as_ a1).toInt.toNat)) ((as_ a1).toInt.toNat * 8 + kn nb ((as_ a1).toInt.toNat)) (ay a1).toInt)
def hOne (ap ast mk : Nat → Int32) (p n : Nat) : Prop := ∃ k9, k9 < n ∧ (ast k9).toInt = 3 ∧ (mk (ap k9).toInt.toNat).toInt = (mk p).toInt
def hSit (as_ ast : Nat → Int32) (s : Int) (n : Nat) : Prop := ∃ k9, k9 < n ∧ (ast k9).toInt = 3 ∧ (as_ k9).toInt = s
theorem hOne_s {ap ast mk : Nat → Int32} {p n : Nat} : hOne ap ast mk p (n + 1) ↔ hOne ap ast mk p n ∨ ((ast n).toInt = 3 ∧ (mk (ap n).toInt.toNat).toInt = (mk p).toInt) := by
  constructor
  · rintro ⟨i, h2, h3, h4⟩
    rcases Nat.lt_or_ge i n with q | q
    · exact Or.inl ⟨i, q, h3, h4⟩
    · have : i = n := by omega
      subst this; exact Or.inr ⟨h3, h4⟩
  · rintro (⟨i, h2, h3, h4⟩ | ⟨h3, h4⟩)
    · exact ⟨i, by omega, h3, h4⟩
    · exact ⟨n, by omega, h3, h4⟩
theorem hSit_s {as_ ast : Nat → Int32} {s : Int} {n : Nat} : hSit as_ ast s (n + 1) ↔ hSit as_ ast s n ∨ ((ast n).toInt = 3 ∧ (as_ n).toInt = s) := by
  constructor
  · rintro ⟨i, h2, h3, h4⟩
    rcases Nat.lt_or_ge i n with q | q
    · exact Or.inl ⟨i, q, h3, h4⟩
    · have : i = n := by omega
      subst this; exact Or.inr ⟨h3, h4⟩
  · rintro (⟨i, h2, h3, h4⟩ | ⟨h3, h4⟩)
    · exact ⟨i, by omega, h3, h4⟩
    · exact ⟨n, by omega, h3, h4⟩
noncomputable def pq2 (x : Int32) (t4 : Int) (ap as_ ast mk : Nat → Int32) (p : Nat) (s : Int) (k j : Nat) : Int32 := (x ||| fl (t4 = 1 ∧ hOne ap ast mk p k) 16) ||| fl (hSit as_ ast s j) 32
theorem pq2_0 {x : Int32} {t4 : Int} {ap as_ ast mk : Nat → Int32} {p : Nat} {s : Int} : x = pq2 x t4 ap as_ ast mk p s 0 0 := by
  unfold pq2
  rw [fl_f (fun ⟨_, i, h, _⟩ => absurd h (Nat.not_lt_zero _)), fl_f (fun ⟨i, h, _⟩ => absurd h (Nat.not_lt_zero _)), Int32.or_zero, Int32.or_zero]
theorem pq2_a {x : Int32} {t4 : Int} {ap as_ ast mk : Nat → Int32} {p : Nat} {s : Int} {k j : Nat} (h1 : t4 = 1) (h2 : (ast k).toInt = 3) (h3 : (mk (ap k).toInt.toNat).toInt = (mk p).toInt) : pq2 x t4 ap as_ ast mk p s k j ||| 16 = pq2 x t4 ap as_ ast mk p s (k + 1) j := by
  unfold pq2
  rw [Int32.or_assoc, Int32.or_comm _ (16 : Int32), ← Int32.or_assoc, fl_hit (B := t4 = 1 ∧ hOne ap ast mk p (k + 1)) ⟨h1, hOne_s.mpr (Or.inr ⟨h2, h3⟩)⟩]
theorem pq2_b {x : Int32} {t4 : Int} {ap as_ ast mk : Nat → Int32} {p : Nat} {s : Int} {k j : Nat} (h : ¬ (t4 = 1 ∧ (ast k).toInt = 3 ∧ (mk (ap k).toInt.toNat).toInt = (mk p).toInt)) : pq2 x t4 ap as_ ast mk p s k j = pq2 x t4 ap as_ ast mk p s (k + 1) j := by
  unfold pq2
  rw [fl_cong (P := t4 = 1 ∧ hOne ap ast mk p k) (Q := t4 = 1 ∧ hOne ap ast mk p (k + 1)) ⟨fun q => ⟨q.1, hOne_s.mpr (Or.inl q.2)⟩, fun q => ⟨q.1, (hOne_s.mp q.2).elim id (fun z => absurd ⟨q.1, z⟩ h)⟩⟩]
theorem pq2_c {x : Int32} {t4 : Int} {ap as_ ast mk : Nat → Int32} {p : Nat} {s : Int} {k j : Nat} (h2 : (ast j).toInt = 3) (h3 : (as_ j).toInt = s) : pq2 x t4 ap as_ ast mk p s k j ||| 32 = pq2 x t4 ap as_ ast mk p s k (j + 1) := by
  unfold pq2
  rw [fl_hit (B := hSit as_ ast s (j + 1)) (hSit_s.mpr (Or.inr ⟨h2, h3⟩))]
theorem pq2_d {x : Int32} {t4 : Int} {ap as_ ast mk : Nat → Int32} {p : Nat} {s : Int} {k j : Nat} (h : ¬ ((ast j).toInt = 3 ∧ (as_ j).toInt = s)) : pq2 x t4 ap as_ ast mk p s k j = pq2 x t4 ap as_ ast mk p s k (j + 1) := by
  unfold pq2
  rw [fl_cong (P := hSit as_ ast s j) (Q := hSit as_ ast s (j + 1)) ⟨fun q => hSit_s.mpr (Or.inl q), fun q => (hSit_s.mp q).elim id (fun z => absurd z h)⟩]
def thC (ap ast th : Nat → Int32) (t : Int) (n : Nat) : Nat := fb_ct (fun k9 => decide ((ast k9).toInt = 3 ∧ (th (ap k9).toInt.toNat).toInt = t)) n
theorem thC_le (ap ast th : Nat → Int32) (t : Int) (n : Nat) : thC ap ast th t n ≤ n := fb_ct_le _ n
theorem thC_y {ap ast th : Nat → Int32} {t : Int} {n : Nat} (h1 : (ast n).toInt = 3) (h2 : (th (ap n).toInt.toNat).toInt = t) : thC ap ast th t n + 1 = thC ap ast th t (n + 1) := by
  unfold thC; rw [fb_ct_succ, if_pos (by rw [decide_eq_true_iff]; exact ⟨h1, h2⟩)]
theorem thC_n {ap ast th : Nat → Int32} {t : Int} {n : Nat} (h : ¬ ((ast n).toInt = 3 ∧ (th (ap n).toInt.toNat).toInt = t)) : thC ap ast th t n = thC ap ast th t (n + 1) := by
  unfold thC; rw [fb_ct_succ, if_neg (by rw [decide_eq_true_iff]; exact h)]; rfl
noncomputable def plaq (tl ap as_ ast mk th : Nat → Int32) (an a1 : Nat) : Int32 := pq2 0 (tl 4).toInt ap as_ ast mk (ap a1).toInt.toNat (as_ a1).toInt an an ||| fl ((tl (10 + (th (ap a1).toInt.toNat).toInt.toNat)).toInt ≠ -1 ∧ (tl (10 + (th (ap a1).toInt.toNat).toInt.toNat)).toInt ≤ (thC ap ast th (th (ap a1).toInt.toNat).toInt an : Int)) 64
theorem ag_ac (x a b c d : Int32) : (((x ||| a) ||| b) ||| c) ||| d = (x ||| d) ||| (((0 ||| a) ||| b) ||| c) := by
  rw [Int32.zero_or]; ac_rfl
/-- people, askings -/
def pOK (di th : Nat → Int32) (pn : Nat) : Prop := ∀ p, p < pn → ((di p).toInt = -1 ∨ (1500 ≤ (di p).toInt ∧ (di p).toInt ≤ 2100)) ∧ 0 ≤ (th p).toInt ∧ (th p).toInt ≤ 7
def kOK (ap as_ ay : Nat → Int32) (an pn sn : Nat) : Prop := an ≤ 40 ∧ ∀ k, k < an → (0 ≤ (ap k).toInt ∧ (ap k).toInt < (pn : Int)) ∧ (0 ≤ (as_ k).toInt ∧ (as_ k).toInt < (sn : Int)) ∧ 1500 ≤ (ay k).toInt ∧ (ay k).toInt ≤ 2100
def rOK (tl : Nat → Int32) : Prop := ∀ k, k < 18 → -1 ≤ (tl k).toInt ∧ (tl k).toInt ≤ 999
/-- of the flags against an asking those that doubtful looks at -/
theorem fl_or {P : Prop} {k : Int32} : fl P k = k ∨ fl P k = 0 := by
  by_cases h : P
  · exact Or.inl (fl_t h)
  · exact Or.inr (fl_f h)
theorem and_or_r (x y m : Int32) : (x ||| y) &&& m = (x &&& m) ||| (y &&& m) := by
  apply Int32.toBitVec_inj.mp
  show (x.toBitVec ||| y.toBitVec) &&& m.toBitVec = (x.toBitVec &&& m.toBitVec) ||| (y.toBitVec &&& m.toBitVec)
  apply BitVec.eq_of_getLsbD_eq
  intro i hi
  rw [BitVec.getLsbD_and, BitVec.getLsbD_or, BitVec.getLsbD_or, BitVec.getLsbD_and, BitVec.getLsbD_and]
  cases x.toBitVec.getLsbD i <;> cases y.toBitVec.getLsbD i <;> cases m.toBitVec.getLsbD i <;> rfl
theorem fl_and {P : Prop} {k m : Int32} : fl P k &&& m = fl P (k &&& m) := by
  by_cases h : P
  · rw [fl_t h, fl_t h]
  · rw [fl_f h, fl_f h]; exact Int32.zero_and
theorem fl_00 {P : Prop} : fl P 0 = 0 := by
  by_cases h : P
  · rw [fl_t h]
  · rw [fl_f h]
theorem doubt_and {nb fr tt st nu : Nat → Int32} {sn : Nat} {qp qs qt qm qf ql qx mk : Nat → Int32} {qn : Nat} {di tl ap as_ ay ast th : Nat → Int32} {an a1 : Nat} : (facts nb fr tt st nu sn qp qs qt qm qf ql qx mk qn di tl ap as_ ay a1 ||| plaq tl ap as_ ast mk th an a1) &&& (-113) = facts nb fr tt st nu sn qp qs qt qm qf ql qx mk qn di tl ap as_ ay a1 := by
  have h1 : ∀ y : Int32, y = plaq tl ap as_ ast mk th an a1 → y &&& (-113) = 0 := by
    intro y hy
    rw [hy]
    unfold plaq pq2
    rw [and_or_r, and_or_r, and_or_r, fl_and, fl_and, fl_and]
    rw [show (16 : Int32) &&& (-113) = 0 from rfl, show (32 : Int32) &&& (-113) = 0 from rfl, show (64 : Int32) &&& (-113) = 0 from rfl, fl_00, fl_00, fl_00]
    rfl
  rw [and_or_r, h1 _ rfl, Int32.or_zero]
  unfold facts fA
  rw [and_or_r, and_or_r, and_or_r, and_or_r, fl_and, fl_and, fl_and, fl_and, fl_and]
  rfl
set_option maxHeartbeats 4000000 in
set_option maxRecDepth 100000 in
theorem c_X10_factsAgainst (l : Launch) (dC : Nat → ClassId) (dI : Nat → Nat → Nat) (cy : Nat → ClassId) (ad : Nat → Nat) (sb : Int32) (su : Nat → Int64) (my : Nat → Int64) (pn : Nat) (qn : Nat) (mk : Nat → Int32) (qp : Nat → Int32) (qs : Nat → Int32) (qt : Nat → Int32) (qm : Nat → Int32) (qf : Nat → Int32) (ql : Nat → Int32) (qx : Nat → Int32) (sn : Nat) (nb : Nat → Int32) (fr : Nat → Int32) (tt : Nat → Int32) (st : Nat → Int32) (nu : Nat → Int32) (di : Nat → Int32) (tl : Nat → Int32) (an : Nat) (ap : Nat → Int32) (as_ : Nat → Int32) (ay : Nat → Int32) (a1 : Nat) (sz : Nat) (hall : sOK nb fr tt sn) (hq : qOK qp qs qf ql qx qn pn) (ha1 : a1 < 40) (hax : (0 ≤ (ap a1).toInt ∧ (ap a1).toInt < ((pn : Nat) : Int)) ∧ (0 ≤ (as_ a1).toInt ∧ (as_ a1).toInt < ((sn : Nat) : Int)) ∧ 1500 ≤ (ay a1).toInt ∧ (ay a1).toInt ≤ 2100) (hdx : (di ((ap a1).toInt.toNat)).toInt = -1 ∨ (1500 ≤ (di ((ap a1).toInt.toNat)).toInt ∧ (di ((ap a1).toInt.toNat)).toInt ≤ 2100)) : Met l yX10_factsAgainst wsX10_factsAgainst ({ frames := 5, cells := 0, slots := 0, locals := 136 }) (va_Pc [.ref (ad 0), .int (nI a1)] (fun U => U.heap.size = sz ∧ va_P (dC, dI) vwCl [(ad 0, .inr (10, [.ref (ad 1), .ref (ad 3), .ref (ad 9), .ref (ad 14), .ref (ad 22), .ref (ad 25), .ref (ad 27), .ref (ad 30), .ref (ad 41), .ref (ad 43)])), (ad 22, .inr (7, [.ref (ad 3), .ref (ad 9), .ref (ad 14), .ref (ad 23), .ref (ad 24), .int sb])), (ad 23, .inl (cy 1, 10, .inr (.inl su))), (ad 24, .inl (cy 1, 10, .inr (.inl my))), (ad 9, .inr (3, [.ref (ad 10), .ref (ad 11), .ref (ad 12), .ref (ad 13), .int (nI pn)])), (ad 13, .inl (cy 0, 30, .inl mk)), (ad 14, .inr (2, [.ref (ad 15), .ref (ad 16), .ref (ad 17), .ref (ad 18), .ref (ad 19), .ref (ad 20), .ref (ad 21), .int (nI qn)])), (ad 15, .inl (cy 0, 100, .inl qp)), (ad 16, .inl (cy 0, 100, .inl qs)), (ad 17, .inl (cy 0, 100, .inl qt)), (ad 18, .inl (cy 0, 100, .inl qm)), (ad 19, .inl (cy 0, 100, .inl qf)), (ad 20, .inl (cy 0, 100, .inl ql)), (ad 21, .inl (cy 2, 100, .inl qx)), (ad 3, .inr (6, [.ref (ad 4), .ref (ad 5), .ref (ad 6), .ref (ad 7), .ref (ad 8), .int (nI sn)])), (ad 4, .inl (cy 0, 40, .inl nb)), (ad 5, .inl (cy 0, 320, .inl fr)), (ad 6, .inl (cy 0, 320, .inl tt)), (ad 7, .inl (cy 0, 320, .inl st)), (ad 8, .inl (cy 0, 320, .inl nu)), (ad 11, .inl (cy 0, 30, .inl di)), (ad 25, .inr (4, [.ref (ad 26)])), (ad 26, .inl (cy 0, 18, .inl tl)), (ad 30, .inr (0, [.ref (ad 31), .ref (ad 32), .ref (ad 33), .ref (ad 34), .ref (ad 35), .ref (ad 36), .ref (ad 37), .ref (ad 38), .ref (ad 39), .ref (ad 40), .int (nI an)])), (ad 31, .inl (cy 0, 40, .inl ap)), (ad 32, .inl (cy 0, 40, .inl as_)), (ad 33, .inl (cy 0, 40, .inl ay))] U.heap ∧ va_K (dC, dI) vwCl (tyL cy) U ∧ va_D (fun _ => True) [(ad 0, .inr (10, [.ref (ad 1), .ref (ad 3), .ref (ad 9), .ref (ad 14), .ref (ad 22), .ref (ad 25), .ref (ad 27), .ref (ad 30), .ref (ad 41), .ref (ad 43)])), (ad 22, .inr (7, [.ref (ad 3), .ref (ad 9), .ref (ad 14), .ref (ad 23), .ref (ad 24), .int sb])), (ad 23, .inl (cy 1, 10, .inr (.inl su))), (ad 24, .inl (cy 1, 10, .inr (.inl my))), (ad 9, .inr (3, [.ref (ad 10), .ref (ad 11), .ref (ad 12), .ref (ad 13), .int (nI pn)])), (ad 13, .inl (cy 0, 30, .inl mk)), (ad 14, .inr (2, [.ref (ad 15), .ref (ad 16), .ref (ad 17), .ref (ad 18), .ref (ad 19), .ref (ad 20), .ref (ad 21), .int (nI qn)])), (ad 15, .inl (cy 0, 100, .inl qp)), (ad 16, .inl (cy 0, 100, .inl qs)), (ad 17, .inl (cy 0, 100, .inl qt)), (ad 18, .inl (cy 0, 100, .inl qm)), (ad 19, .inl (cy 0, 100, .inl qf)), (ad 20, .inl (cy 0, 100, .inl ql)), (ad 21, .inl (cy 2, 100, .inl qx)), (ad 3, .inr (6, [.ref (ad 4), .ref (ad 5), .ref (ad 6), .ref (ad 7), .ref (ad 8), .int (nI sn)])), (ad 4, .inl (cy 0, 40, .inl nb)), (ad 5, .inl (cy 0, 320, .inl fr)), (ad 6, .inl (cy 0, 320, .inl tt)), (ad 7, .inl (cy 0, 320, .inl st)), (ad 8, .inl (cy 0, 320, .inl nu)), (ad 11, .inl (cy 0, 30, .inl di)), (ad 25, .inr (4, [.ref (ad 26)])), (ad 26, .inl (cy 0, 18, .inl tl)), (ad 30, .inr (0, [.ref (ad 31), .ref (ad 32), .ref (ad 33), .ref (ad 34), .ref (ad 35), .ref (ad 36), .ref (ad 37), .ref (ad 38), .ref (ad 39), .ref (ad 40), .int (nI an)])), (ad 31, .inl (cy 0, 40, .inl ap)), (ad 32, .inl (cy 0, 40, .inl as_)), (ad 33, .inl (cy 0, 40, .inl ay))])) (va_Qi (S := Int32 × (Nat → Int64) × (Nat → Int64)) (fun r => fun u => match u with | (sb2, su2, my2) => r = facts nb fr tt st nu sn qp qs qt qm qf ql qx mk qn di tl ap as_ ay a1) (fun u => match u with | (sb2, su2, my2) => fun t => va_P (dC, dI) vwCl [(ad 0, .inr (10, [.ref (ad 1), .ref (ad 3), .ref (ad 9), .ref (ad 14), .ref (ad 22), .ref (ad 25), .ref (ad 27), .ref (ad 30), .ref (ad 41), .ref (ad 43)])), (ad 22, .inr (7, [.ref (ad 3), .ref (ad 9), .ref (ad 14), .ref (ad 23), .ref (ad 24), .int sb2])), (ad 23, .inl (cy 1, 10, .inr (.inl su2))), (ad 24, .inl (cy 1, 10, .inr (.inl my2))), (ad 9, .inr (3, [.ref (ad 10), .ref (ad 11), .ref (ad 12), .ref (ad 13), .int (nI pn)])), (ad 13, .inl (cy 0, 30, .inl mk)), (ad 14, .inr (2, [.ref (ad 15), .ref (ad 16), .ref (ad 17), .ref (ad 18), .ref (ad 19), .ref (ad 20), .ref (ad 21), .int (nI qn)])), (ad 15, .inl (cy 0, 100, .inl qp)), (ad 16, .inl (cy 0, 100, .inl qs)), (ad 17, .inl (cy 0, 100, .inl qt)), (ad 18, .inl (cy 0, 100, .inl qm)), (ad 19, .inl (cy 0, 100, .inl qf)), (ad 20, .inl (cy 0, 100, .inl ql)), (ad 21, .inl (cy 2, 100, .inl qx)), (ad 3, .inr (6, [.ref (ad 4), .ref (ad 5), .ref (ad 6), .ref (ad 7), .ref (ad 8), .int (nI sn)])), (ad 4, .inl (cy 0, 40, .inl nb)), (ad 5, .inl (cy 0, 320, .inl fr)), (ad 6, .inl (cy 0, 320, .inl tt)), (ad 7, .inl (cy 0, 320, .inl st)), (ad 8, .inl (cy 0, 320, .inl nu)), (ad 11, .inl (cy 0, 30, .inl di)), (ad 25, .inr (4, [.ref (ad 26)])), (ad 26, .inl (cy 0, 18, .inl tl)), (ad 30, .inr (0, [.ref (ad 31), .ref (ad 32), .ref (ad 33), .ref (ad 34), .ref (ad 35), .ref (ad 36), .ref (ad 37), .ref (ad 38), .ref (ad 39), .ref (ad 40), .int (nI an)])), (ad 31, .inl (cy 0, 40, .inl ap)), (ad 32, .inl (cy 0, 40, .inl as_)), (ad 33, .inl (cy 0, 40, .inl ay))] t.heap ∧ va_K (dC, dI) vwCl (tyL cy) t ∧ va_D (va_A [(ad 0, .inr (10, [.ref (ad 1), .ref (ad 3), .ref (ad 9), .ref (ad 14), .ref (ad 22), .ref (ad 25), .ref (ad 27), .ref (ad 30), .ref (ad 41), .ref (ad 43)])), (ad 22, .inr (7, [.ref (ad 3), .ref (ad 9), .ref (ad 14), .ref (ad 23), .ref (ad 24), .int sb])), (ad 23, .inl (cy 1, 10, .inr (.inl su))), (ad 24, .inl (cy 1, 10, .inr (.inl my))), (ad 9, .inr (3, [.ref (ad 10), .ref (ad 11), .ref (ad 12), .ref (ad 13), .int (nI pn)])), (ad 13, .inl (cy 0, 30, .inl mk)), (ad 14, .inr (2, [.ref (ad 15), .ref (ad 16), .ref (ad 17), .ref (ad 18), .ref (ad 19), .ref (ad 20), .ref (ad 21), .int (nI qn)])), (ad 15, .inl (cy 0, 100, .inl qp)), (ad 16, .inl (cy 0, 100, .inl qs)), (ad 17, .inl (cy 0, 100, .inl qt)), (ad 18, .inl (cy 0, 100, .inl qm)), (ad 19, .inl (cy 0, 100, .inl qf)), (ad 20, .inl (cy 0, 100, .inl ql)), (ad 21, .inl (cy 2, 100, .inl qx)), (ad 3, .inr (6, [.ref (ad 4), .ref (ad 5), .ref (ad 6), .ref (ad 7), .ref (ad 8), .int (nI sn)])), (ad 4, .inl (cy 0, 40, .inl nb)), (ad 5, .inl (cy 0, 320, .inl fr)), (ad 6, .inl (cy 0, 320, .inl tt)), (ad 7, .inl (cy 0, 320, .inl st)), (ad 8, .inl (cy 0, 320, .inl nu)), (ad 11, .inl (cy 0, 30, .inl di)), (ad 25, .inr (4, [.ref (ad 26)])), (ad 26, .inl (cy 0, 18, .inl tl)), (ad 30, .inr (0, [.ref (ad 31), .ref (ad 32), .ref (ad 33), .ref (ad 34), .ref (ad 35), .ref (ad 36), .ref (ad 37), .ref (ad 38), .ref (ad 39), .ref (ad 40), .int (nI an)])), (ad 31, .inl (cy 0, 40, .inl ap)), (ad 32, .inl (cy 0, 40, .inl as_)), (ad 33, .inl (cy 0, 40, .inl ay))] sz) [(ad 0, .inr (10, [.ref (ad 1), .ref (ad 3), .ref (ad 9), .ref (ad 14), .ref (ad 22), .ref (ad 25), .ref (ad 27), .ref (ad 30), .ref (ad 41), .ref (ad 43)])), (ad 22, .inr (7, [.ref (ad 3), .ref (ad 9), .ref (ad 14), .ref (ad 23), .ref (ad 24), .int sb2])), (ad 23, .inl (cy 1, 10, .inr (.inl su2))), (ad 24, .inl (cy 1, 10, .inr (.inl my2))), (ad 9, .inr (3, [.ref (ad 10), .ref (ad 11), .ref (ad 12), .ref (ad 13), .int (nI pn)])), (ad 13, .inl (cy 0, 30, .inl mk)), (ad 14, .inr (2, [.ref (ad 15), .ref (ad 16), .ref (ad 17), .ref (ad 18), .ref (ad 19), .ref (ad 20), .ref (ad 21), .int (nI qn)])), (ad 15, .inl (cy 0, 100, .inl qp)), (ad 16, .inl (cy 0, 100, .inl qs)), (ad 17, .inl (cy 0, 100, .inl qt)), (ad 18, .inl (cy 0, 100, .inl qm)), (ad 19, .inl (cy 0, 100, .inl qf)), (ad 20, .inl (cy 0, 100, .inl ql)), (ad 21, .inl (cy 2, 100, .inl qx)), (ad 3, .inr (6, [.ref (ad 4), .ref (ad 5), .ref (ad 6), .ref (ad 7), .ref (ad 8), .int (nI sn)])), (ad 4, .inl (cy 0, 40, .inl nb)), (ad 5, .inl (cy 0, 320, .inl fr)), (ad 6, .inl (cy 0, 320, .inl tt)), (ad 7, .inl (cy 0, 320, .inl st)), (ad 8, .inl (cy 0, 320, .inl nu)), (ad 11, .inl (cy 0, 30, .inl di)), (ad 25, .inr (4, [.ref (ad 26)])), (ad 26, .inl (cy 0, 18, .inl tl)), (ad 30, .inr (0, [.ref (ad 31), .ref (ad 32), .ref (ad 33), .ref (ad 34), .ref (ad 35), .ref (ad 36), .ref (ad 37), .ref (ad 38), .ref (ad 39), .ref (ad 40), .int (nI an)])), (ad 31, .inl (cy 0, 40, .inl ap)), (ad 32, .inl (cy 0, 40, .inl as_)), (ad 33, .inl (cy 0, 40, .inl ay))]) (va_A [(ad 0, .inr (10, [.ref (ad 1), .ref (ad 3), .ref (ad 9), .ref (ad 14), .ref (ad 22), .ref (ad 25), .ref (ad 27), .ref (ad 30), .ref (ad 41), .ref (ad 43)])), (ad 22, .inr (7, [.ref (ad 3), .ref (ad 9), .ref (ad 14), .ref (ad 23), .ref (ad 24), .int sb])), (ad 23, .inl (cy 1, 10, .inr (.inl su))), (ad 24, .inl (cy 1, 10, .inr (.inl my))), (ad 9, .inr (3, [.ref (ad 10), .ref (ad 11), .ref (ad 12), .ref (ad 13), .int (nI pn)])), (ad 13, .inl (cy 0, 30, .inl mk)), (ad 14, .inr (2, [.ref (ad 15), .ref (ad 16), .ref (ad 17), .ref (ad 18), .ref (ad 19), .ref (ad 20), .ref (ad 21), .int (nI qn)])), (ad 15, .inl (cy 0, 100, .inl qp)), (ad 16, .inl (cy 0, 100, .inl qs)), (ad 17, .inl (cy 0, 100, .inl qt)), (ad 18, .inl (cy 0, 100, .inl qm)), (ad 19, .inl (cy 0, 100, .inl qf)), (ad 20, .inl (cy 0, 100, .inl ql)), (ad 21, .inl (cy 2, 100, .inl qx)), (ad 3, .inr (6, [.ref (ad 4), .ref (ad 5), .ref (ad 6), .ref (ad 7), .ref (ad 8), .int (nI sn)])), (ad 4, .inl (cy 0, 40, .inl nb)), (ad 5, .inl (cy 0, 320, .inl fr)), (ad 6, .inl (cy 0, 320, .inl tt)), (ad 7, .inl (cy 0, 320, .inl st)), (ad 8, .inl (cy 0, 320, .inl nu)), (ad 11, .inl (cy 0, 30, .inl di)), (ad 25, .inr (4, [.ref (ad 26)])), (ad 26, .inl (cy 0, 18, .inl tl)), (ad 30, .inr (0, [.ref (ad 31), .ref (ad 32), .ref (ad 33), .ref (ad 34), .ref (ad 35), .ref (ad 36), .ref (ad 37), .ref (ad 38), .ref (ad 39), .ref (ad 40), .int (nI an)])), (ad 31, .inl (cy 0, 40, .inl ap)), (ad 32, .inl (cy 0, 40, .inl as_)), (ad 33, .inl (cy 0, 40, .inl ay))] sz)) 0 0 (va_A [(ad 0, .inr (10, [.ref (ad 1), .ref (ad 3), .ref (ad 9), .ref (ad 14), .ref (ad 22), .ref (ad 25), .ref (ad 27), .ref (ad 30), .ref (ad 41), .ref (ad 43)])), (ad 22, .inr (7, [.ref (ad 3), .ref (ad 9), .ref (ad 14), .ref (ad 23), .ref (ad 24), .int sb])), (ad 23, .inl (cy 1, 10, .inr (.inl su))), (ad 24, .inl (cy 1, 10, .inr (.inl my))), (ad 9, .inr (3, [.ref (ad 10), .ref (ad 11), .ref (ad 12), .ref (ad 13), .int (nI pn)])), (ad 13, .inl (cy 0, 30, .inl mk)), (ad 14, .inr (2, [.ref (ad 15), .ref (ad 16), .ref (ad 17), .ref (ad 18), .ref (ad 19), .ref (ad 20), .ref (ad 21), .int (nI qn)])), (ad 15, .inl (cy 0, 100, .inl qp)), (ad 16, .inl (cy 0, 100, .inl qs)), (ad 17, .inl (cy 0, 100, .inl qt)), (ad 18, .inl (cy 0, 100, .inl qm)), (ad 19, .inl (cy 0, 100, .inl qf)), (ad 20, .inl (cy 0, 100, .inl ql)), (ad 21, .inl (cy 2, 100, .inl qx)), (ad 3, .inr (6, [.ref (ad 4), .ref (ad 5), .ref (ad 6), .ref (ad 7), .ref (ad 8), .int (nI sn)])), (ad 4, .inl (cy 0, 40, .inl nb)), (ad 5, .inl (cy 0, 320, .inl fr)), (ad 6, .inl (cy 0, 320, .inl tt)), (ad 7, .inl (cy 0, 320, .inl st)), (ad 8, .inl (cy 0, 320, .inl nu)), (ad 11, .inl (cy 0, 30, .inl di)), (ad 25, .inr (4, [.ref (ad 26)])), (ad 26, .inl (cy 0, 18, .inl tl)), (ad 30, .inr (0, [.ref (ad 31), .ref (ad 32), .ref (ad 33), .ref (ad 34), .ref (ad 35), .ref (ad 36), .ref (ad 37), .ref (ad 38), .ref (ad 39), .ref (ad 40), .int (nI an)])), (ad 31, .inl (cy 0, 40, .inl ap)), (ad 32, .inl (cy 0, 40, .inl as_)), (ad 33, .inl (cy 0, 40, .inl ay))] sz) := by
  refine Met.ofW (cc := cX10_factsAgainst) (maxL := 7) (ret := (some .int)) (by decide) rfl ?_
  intro pp ee ss mm args below meth cc0 s₁ B hml hv
  obtain ⟨rfl, hsz, hP, hK, hD0⟩ := hv
  have hx := B.exec
  have hb := B.bytes
  have hr := B.returns
  have hts := atoms_spec (ws := wsX10_factsAgainst) B.pre
  have hown : ss.vm.findClass RX10 = some mm.cls := findClass_of_methodNamed B.named
  have hlocks := B.notSynchronized
  have hL0 := hts (.fieldLink RX10 65 "HereLived" "askings" "LHereLived$Askings;") (by decide +kernel)
  have hL1 := hts (.fieldLink RX10 246 "HereLived$Askings" "ofPerson" "[I") (by decide +kernel)
  have hL2 := hts (.fieldLink RX10 249 "HereLived$Askings" "ofSite" "[I") (by decide +kernel)
  have hL3 := hts (.fieldLink RX10 252 "HereLived$Askings" "year" "[I") (by decide +kernel)
  have hL4 := hts (.fieldLink RX10 42 "HereLived" "stay" "LHereLived$Stay;") (by decide +kernel)
  have hL5 := hts (.fieldLink RX10 26 "HereLived" "people" "LHereLived$People;") (by decide +kernel)
  have hL6 := hts (.fieldLink RX10 260 "HereLived$People" "died" "[I") (by decide +kernel)
  have hL7 := hts (.fieldLink RX10 49 "HereLived" "book" "LHereLived$RuleBook;") (by decide +kernel)
  have hL8 := hts (.fieldLink RX10 196 "HereLived$RuleBook" "told" "[I") (by decide +kernel)
  have hL9 := hts (.fieldLink RX10 19 "HereLived" "sites" "LHereLived$Sites;") (by decide +kernel)
  have hiX0 : ∀ w ∈ wsX00, w ∈ wsX10_factsAgainst := by decide +kernel
  have hiX10 : ∀ w ∈ wsX100, w ∈ wsX10_factsAgainst := by decide +kernel
  have hiX3 : ∀ w ∈ wsX30, w ∈ wsX10_factsAgainst := by decide +kernel
  have hiX4 : ∀ w ∈ wsX40, w ∈ wsX10_factsAgainst := by decide +kernel
  subst hsz
  have hD := hD0.self (sz := ss.heap.size)
  generalize hAe : va_A [(ad 0, .inr (10, [.ref (ad 1), .ref (ad 3), .ref (ad 9), .ref (ad 14), .ref (ad 22), .ref (ad 25), .ref (ad 27), .ref (ad 30), .ref (ad 41), .ref (ad 43)])), (ad 22, .inr (7, [.ref (ad 3), .ref (ad 9), .ref (ad 14), .ref (ad 23), .ref (ad 24), .int sb])), (ad 23, .inl (cy 1, 10, .inr (.inl su))), (ad 24, .inl (cy 1, 10, .inr (.inl my))), (ad 9, .inr (3, [.ref (ad 10), .ref (ad 11), .ref (ad 12), .ref (ad 13), .int (nI pn)])), (ad 13, .inl (cy 0, 30, .inl mk)), (ad 14, .inr (2, [.ref (ad 15), .ref (ad 16), .ref (ad 17), .ref (ad 18), .ref (ad 19), .ref (ad 20), .ref (ad 21), .int (nI qn)])), (ad 15, .inl (cy 0, 100, .inl qp)), (ad 16, .inl (cy 0, 100, .inl qs)), (ad 17, .inl (cy 0, 100, .inl qt)), (ad 18, .inl (cy 0, 100, .inl qm)), (ad 19, .inl (cy 0, 100, .inl qf)), (ad 20, .inl (cy 0, 100, .inl ql)), (ad 21, .inl (cy 2, 100, .inl qx)), (ad 3, .inr (6, [.ref (ad 4), .ref (ad 5), .ref (ad 6), .ref (ad 7), .ref (ad 8), .int (nI sn)])), (ad 4, .inl (cy 0, 40, .inl nb)), (ad 5, .inl (cy 0, 320, .inl fr)), (ad 6, .inl (cy 0, 320, .inl tt)), (ad 7, .inl (cy 0, 320, .inl st)), (ad 8, .inl (cy 0, 320, .inl nu)), (ad 11, .inl (cy 0, 30, .inl di)), (ad 25, .inr (4, [.ref (ad 26)])), (ad 26, .inl (cy 0, 18, .inl tl)), (ad 30, .inr (0, [.ref (ad 31), .ref (ad 32), .ref (ad 33), .ref (ad 34), .ref (ad 35), .ref (ad 36), .ref (ad 37), .ref (ad 38), .ref (ad 39), .ref (ad 40), .int (nI an)])), (ad 31, .inl (cy 0, 40, .inl ap)), (ad 32, .inl (cy 0, 40, .inl as_)), (ad 33, .inl (cy 0, 40, .inl ay))] ss.heap.size = A at hD ⊢
  have hA : ∀ q : Nat, ss.heap.size ≤ q → A q := fun q h => by rw [← hAe]; exact Or.inr h
  have hS : va_S A ss.heap ss.heap [] := va_S.rf
  have hP : va_P (dC, dI) vwCl [(ad 0, .inr (10, [.ref (ad 1), .ref (ad 3), .ref (ad 9), .ref (ad 14), .ref (ad 22), .ref (ad 25), .ref (ad 27), .ref (ad 30), .ref (ad 41), .ref (ad 43)])), (ad 22, .inr (7, [.ref (ad 3), .ref (ad 9), .ref (ad 14), .ref (ad 23), .ref (ad 24), .int sb])), (ad 23, .inl (cy 1, 10, .inr (.inl su))), (ad 24, .inl (cy 1, 10, .inr (.inl my))), (ad 9, .inr (3, [.ref (ad 10), .ref (ad 11), .ref (ad 12), .ref (ad 13), .int (nI pn)])), (ad 13, .inl (cy 0, 30, .inl mk)), (ad 14, .inr (2, [.ref (ad 15), .ref (ad 16), .ref (ad 17), .ref (ad 18), .ref (ad 19), .ref (ad 20), .ref (ad 21), .int (nI qn)])), (ad 15, .inl (cy 0, 100, .inl qp)), (ad 16, .inl (cy 0, 100, .inl qs)), (ad 17, .inl (cy 0, 100, .inl qt)), (ad 18, .inl (cy 0, 100, .inl qm)), (ad 19, .inl (cy 0, 100, .inl qf)), (ad 20, .inl (cy 0, 100, .inl ql)), (ad 21, .inl (cy 2, 100, .inl qx)), (ad 3, .inr (6, [.ref (ad 4), .ref (ad 5), .ref (ad 6), .ref (ad 7), .ref (ad 8), .int (nI sn)])), (ad 4, .inl (cy 0, 40, .inl nb)), (ad 5, .inl (cy 0, 320, .inl fr)), (ad 6, .inl (cy 0, 320, .inl tt)), (ad 7, .inl (cy 0, 320, .inl st)), (ad 8, .inl (cy 0, 320, .inl nu)), (ad 11, .inl (cy 0, 30, .inl di)), (ad 25, .inr (4, [.ref (ad 26)])), (ad 26, .inl (cy 0, 18, .inl tl)), (ad 30, .inr (0, [.ref (ad 31), .ref (ad 32), .ref (ad 33), .ref (ad 34), .ref (ad 35), .ref (ad 36), .ref (ad 37), .ref (ad 38), .ref (ad 39), .ref (ad 40), .int (nI an)])), (ad 31, .inl (cy 0, 40, .inl ap)), (ad 32, .inl (cy 0, 40, .inl as_)), (ad 33, .inl (cy 0, 40, .inl ay))] ss.heap := hP
  have hl := lv_entry ([.ref (ad 0), .int (nI a1)]) (n := 7) (Nat.le_of_ble_eq_true rfl)
  rw [lg_entry_eq]
  generalize (lg_sl ([.ref (ad 0), .int (nI a1)]) ++ List.replicate (7 - (lg_sl ([.ref (ad 0), .int (nI a1)])).length) Slot.unset).toArray = ls at hl ⊢
  have hl : lv_has ls 7 [(0, .ref (ad 0)), (1, .int (nI a1))] := hl
  refine bw_Q (fun Q hQ => ?_)
  refine bw_H0 (fun H locs eH eL => ?_)
  have hS : va_S A ss.heap H locs := by rw [eH, eL]; exact hS
  have hP : va_P (dC, dI) vwCl [(ad 0, .inr (10, [.ref (ad 1), .ref (ad 3), .ref (ad 9), .ref (ad 14), .ref (ad 22), .ref (ad 25), .ref (ad 27), .ref (ad 30), .ref (ad 41), .ref (ad 43)])), (ad 22, .inr (7, [.ref (ad 3), .ref (ad 9), .ref (ad 14), .ref (ad 23), .ref (ad 24), .int sb])), (ad 23, .inl (cy 1, 10, .inr (.inl su))), (ad 24, .inl (cy 1, 10, .inr (.inl my))), (ad 9, .inr (3, [.ref (ad 10), .ref (ad 11), .ref (ad 12), .ref (ad 13), .int (nI pn)])), (ad 13, .inl (cy 0, 30, .inl mk)), (ad 14, .inr (2, [.ref (ad 15), .ref (ad 16), .ref (ad 17), .ref (ad 18), .ref (ad 19), .ref (ad 20), .ref (ad 21), .int (nI qn)])), (ad 15, .inl (cy 0, 100, .inl qp)), (ad 16, .inl (cy 0, 100, .inl qs)), (ad 17, .inl (cy 0, 100, .inl qt)), (ad 18, .inl (cy 0, 100, .inl qm)), (ad 19, .inl (cy 0, 100, .inl qf)), (ad 20, .inl (cy 0, 100, .inl ql)), (ad 21, .inl (cy 2, 100, .inl qx)), (ad 3, .inr (6, [.ref (ad 4), .ref (ad 5), .ref (ad 6), .ref (ad 7), .ref (ad 8), .int (nI sn)])), (ad 4, .inl (cy 0, 40, .inl nb)), (ad 5, .inl (cy 0, 320, .inl fr)), (ad 6, .inl (cy 0, 320, .inl tt)), (ad 7, .inl (cy 0, 320, .inl st)), (ad 8, .inl (cy 0, 320, .inl nu)), (ad 11, .inl (cy 0, 30, .inl di)), (ad 25, .inr (4, [.ref (ad 26)])), (ad 26, .inl (cy 0, 18, .inl tl)), (ad 30, .inr (0, [.ref (ad 31), .ref (ad 32), .ref (ad 33), .ref (ad 34), .ref (ad 35), .ref (ad 36), .ref (ad 37), .ref (ad 38), .ref (ad 39), .ref (ad 40), .int (nI an)])), (ad 31, .inl (cy 0, 40, .inl ap)), (ad 32, .inl (cy 0, 40, .inl as_)), (ad 33, .inl (cy 0, 40, .inl ay))] H := by rw [eH]; exact hP
  change W pp l ee { frames := 5, cells := 0, slots := 0, locals := 136 } ss mm _ below meth cc0 H locs 0 0 Q (F0 mm 0 ls [])
  have hpn := hq.2.1
  have h40 := hall.1
  obtain ⟨kk, hk, hk1, hk8, hok⟩ := hall.2.2 ((as_ a1).toInt.toNat) (by omega)
  have hkn := kn_nI hk hk8
  clear hok
  have q7 : (-1 : Int32).toInt = -1 := rfl
  refine lv_aload_n hx hb dX10_factsAgainst_0 rfl (lv_at hl 0 rfl) ?_
  refine va_get (D := (dC, dI)) (ci := 10) (v := .ref (ad 30)) (C := RX10) (T := TX10) (N := 10) hx hb hts hiX10 hown hK hP 0 rfl rfl 7 (by decide) hL0 (fun _ h9 => h9) rfl dX10_factsAgainst_1 ?_
  refine va_get (D := (dC, dI)) (ci := 0) (v := .ref (ad 31)) (C := RX0) (T := TX0) (N := 11) hx hb hts hiX0 hown hK hP 23 rfl rfl 0 (by decide) hL1 (fun _ h9 => h9) rfl dX10_factsAgainst_4 ?_
  refine lv_iload_n hx hb dX10_factsAgainst_7 rfl (lv_at hl 1 rfl) ?_
  refine bw_iald hx hb hK hP 24 0 rfl rfl (j := a1) (nI_toInt (by omega)) (by omega) dX10_factsAgainst_8 ?_
  refine bw_re (show (ap a1) = nI ((ap a1).toInt.toNat) from nI_back (by omega)) ?_
  refine lv_istore_n (lv' := [(2, .int (nI ((ap a1).toInt.toNat))), (0, .ref (ad 0)), (1, .int (nI a1))]) hx hb dX10_factsAgainst_9 rfl hl (by decide) rfl (fun ls hl => ?_)
  refine lv_aload_n hx hb dX10_factsAgainst_10 rfl (lv_at hl 1 rfl) ?_
  refine va_get (D := (dC, dI)) (ci := 10) (v := .ref (ad 30)) (C := RX10) (T := TX10) (N := 10) hx hb hts hiX10 hown hK hP 0 rfl rfl 7 (by decide) hL0 (fun _ h9 => h9) rfl dX10_factsAgainst_11 ?_
  refine va_get (D := (dC, dI)) (ci := 0) (v := .ref (ad 32)) (C := RX0) (T := TX0) (N := 11) hx hb hts hiX0 hown hK hP 23 rfl rfl 1 (by decide) hL2 (fun _ h9 => h9) rfl dX10_factsAgainst_14 ?_
  refine lv_iload_n hx hb dX10_factsAgainst_17 rfl (lv_at hl 2 rfl) ?_
  refine bw_iald hx hb hK hP 25 0 rfl rfl (j := a1) (nI_toInt (by omega)) (by omega) dX10_factsAgainst_18 ?_
  refine bw_re (show (as_ a1) = nI ((as_ a1).toInt.toNat) from nI_back (by omega)) ?_
  refine lv_istore_n (lv' := [(3, .int (nI ((as_ a1).toInt.toNat))), (2, .int (nI ((ap a1).toInt.toNat))), (0, .ref (ad 0)), (1, .int (nI a1))]) hx hb dX10_factsAgainst_19 rfl hl (by decide) rfl (fun ls hl => ?_)
  refine lv_aload_n hx hb dX10_factsAgainst_20 rfl (lv_at hl 2 rfl) ?_
  refine va_get (D := (dC, dI)) (ci := 10) (v := .ref (ad 30)) (C := RX10) (T := TX10) (N := 10) hx hb hts hiX10 hown hK hP 0 rfl rfl 7 (by decide) hL0 (fun _ h9 => h9) rfl dX10_factsAgainst_21 ?_
  refine va_get (D := (dC, dI)) (ci := 0) (v := .ref (ad 33)) (C := RX0) (T := TX0) (N := 11) hx hb hts hiX0 hown hK hP 23 rfl rfl 2 (by decide) hL3 (fun _ h9 => h9) rfl dX10_factsAgainst_24 ?_
  refine lv_iload_n hx hb dX10_factsAgainst_27 rfl (lv_at hl 3 rfl) ?_
  refine bw_iald hx hb hK hP 26 0 rfl rfl (j := a1) (nI_toInt (by omega)) (by omega) dX10_factsAgainst_28 ?_
  refine lv_istore (lv' := [(4, .int (ay a1)), (3, .int (nI ((as_ a1).toInt.toNat))), (2, .int (nI ((ap a1).toInt.toNat))), (0, .ref (ad 0)), (1, .int (nI a1))]) hx hb dX10_factsAgainst_29 hl (by decide) rfl (fun ls hl => ?_)
  refine lv_aload_n hx hb dX10_factsAgainst_31 rfl (lv_at hl 3 rfl) ?_
  refine va_get (D := (dC, dI)) (ci := 10) (v := .ref (ad 22)) (C := RX10) (T := TX10) (N := 10) hx hb hts hiX10 hown hK hP 0 rfl rfl 4 (by decide) hL4 (fun _ h9 => h9) rfl dX10_factsAgainst_32 ?_
  refine lv_iload_n hx hb dX10_factsAgainst_35 rfl (lv_at hl 2 rfl) ?_
  refine lv_iload_n hx hb dX10_factsAgainst_36 rfl (lv_at hl 1 rfl) ?_
  have hPc : va_P (dC, dI) vwCl [(ad 22, .inr (7, [.ref (ad 3), .ref (ad 9), .ref (ad 14), .ref (ad 23), .ref (ad 24), .int sb])), (ad 23, .inl (cy 1, 10, .inr (.inl su))), (ad 24, .inl (cy 1, 10, .inr (.inl my))), (ad 9, .inr (3, [.ref (ad 10), .ref (ad 11), .ref (ad 12), .ref (ad 13), .int (nI pn)])), (ad 13, .inl (cy 0, 30, .inl mk)), (ad 14, .inr (2, [.ref (ad 15), .ref (ad 16), .ref (ad 17), .ref (ad 18), .ref (ad 19), .ref (ad 20), .ref (ad 21), .int (nI qn)])), (ad 15, .inl (cy 0, 100, .inl qp)), (ad 16, .inl (cy 0, 100, .inl qs)), (ad 17, .inl (cy 0, 100, .inl qt)), (ad 18, .inl (cy 0, 100, .inl qm)), (ad 19, .inl (cy 0, 100, .inl qf)), (ad 20, .inl (cy 0, 100, .inl ql)), (ad 21, .inl (cy 2, 100, .inl qx)), (ad 3, .inr (6, [.ref (ad 4), .ref (ad 5), .ref (ad 6), .ref (ad 7), .ref (ad 8), .int (nI sn)])), (ad 4, .inl (cy 0, 40, .inl nb)), (ad 5, .inl (cy 0, 320, .inl fr)), (ad 6, .inl (cy 0, 320, .inl tt)), (ad 7, .inl (cy 0, 320, .inl st)), (ad 8, .inl (cy 0, 320, .inl nu))] H := hP.sub [1, 2, 3, 4, 5, 6, 7, 8, 9, 10, 11, 12, 13, 14, 15, 16, 17, 18, 19] rfl
  have hDc : va_D A [(ad 22, .inr (7, [.ref (ad 3), .ref (ad 9), .ref (ad 14), .ref (ad 23), .ref (ad 24), .int sb])), (ad 23, .inl (cy 1, 10, .inr (.inl su))), (ad 24, .inl (cy 1, 10, .inr (.inl my))), (ad 9, .inr (3, [.ref (ad 10), .ref (ad 11), .ref (ad 12), .ref (ad 13), .int (nI pn)])), (ad 13, .inl (cy 0, 30, .inl mk)), (ad 14, .inr (2, [.ref (ad 15), .ref (ad 16), .ref (ad 17), .ref (ad 18), .ref (ad 19), .ref (ad 20), .ref (ad 21), .int (nI qn)])), (ad 15, .inl (cy 0, 100, .inl qp)), (ad 16, .inl (cy 0, 100, .inl qs)), (ad 17, .inl (cy 0, 100, .inl qt)), (ad 18, .inl (cy 0, 100, .inl qm)), (ad 19, .inl (cy 0, 100, .inl qf)), (ad 20, .inl (cy 0, 100, .inl ql)), (ad 21, .inl (cy 2, 100, .inl qx)), (ad 3, .inr (6, [.ref (ad 4), .ref (ad 5), .ref (ad 6), .ref (ad 7), .ref (ad 8), .int (nI sn)])), (ad 4, .inl (cy 0, 40, .inl nb)), (ad 5, .inl (cy 0, 320, .inl fr)), (ad 6, .inl (cy 0, 320, .inl tt)), (ad 7, .inl (cy 0, 320, .inl st)), (ad 8, .inl (cy 0, 320, .inl nu))] := hD.sub [1, 2, 3, 4, 5, 6, 7, 8, 9, 10, 11, 12, 13, 14, 15, 16, 17, 18, 19] (by decide) rfl
  have hFc := va_free (wc := [(ad 22, .inr (7, [.ref (ad 3), .ref (ad 9), .ref (ad 14), .ref (ad 23), .ref (ad 24), .int sb])), (ad 23, .inl (cy 1, 10, .inr (.inl su))), (ad 24, .inl (cy 1, 10, .inr (.inl my))), (ad 9, .inr (3, [.ref (ad 10), .ref (ad 11), .ref (ad 12), .ref (ad 13), .int (nI pn)])), (ad 13, .inl (cy 0, 30, .inl mk)), (ad 14, .inr (2, [.ref (ad 15), .ref (ad 16), .ref (ad 17), .ref (ad 18), .ref (ad 19), .ref (ad 20), .ref (ad 21), .int (nI qn)])), (ad 15, .inl (cy 0, 100, .inl qp)), (ad 16, .inl (cy 0, 100, .inl qs)), (ad 17, .inl (cy 0, 100, .inl qt)), (ad 18, .inl (cy 0, 100, .inl qm)), (ad 19, .inl (cy 0, 100, .inl qf)), (ad 20, .inl (cy 0, 100, .inl ql)), (ad 21, .inl (cy 2, 100, .inl qx)), (ad 3, .inr (6, [.ref (ad 4), .ref (ad 5), .ref (ad 6), .ref (ad 7), .ref (ad 8), .int (nI sn)])), (ad 4, .inl (cy 0, 40, .inl nb)), (ad 5, .inl (cy 0, 320, .inl fr)), (ad 6, .inl (cy 0, 320, .inl tt)), (ad 7, .inl (cy 0, 320, .inl st)), (ad 8, .inl (cy 0, 320, .inl nu))]) hD hS hA [1, 2, 3, 4, 5, 6, 7, 8, 9, 10, 11, 12, 13, 14, 15, 16, 17, 18, 19] rfl
  refine va_callv (va_runV (As := [.int (nI ((ap a1).toInt.toNat)), .int (nI ((as_ a1).toInt.toNat))]) (rest := []) ⟨hx, hb, hml, hown, hts⟩ (c_X7_study l dC dI cy ad sb su my pn qn mk qp qs qt qm qf ql qx sn nb fr tt st nu ((ap a1).toInt.toNat) ((as_ a1).toInt.toNat) H.size (by first | assumption | omega) (by first | assumption | omega) (by first | assumption | omega) (by first | assumption | omega)) (cwV 2 hts gX10_factsAgainst_X7_study rfl rfl rfl (by decide +kernel) ⟨Nat.le_of_ble_eq_true rfl, Nat.le_of_ble_eq_true rfl⟩) ⟨fun a U g mk q => by obtain ⟨q0, q1, qP, qK, qD⟩ := q; exact ⟨q0, q1, qP, va_K.moved (u := U) (U := U.calling g mk a) (Vm.Alike.refl U.vm) qK, qD⟩, va_recv hK hPc (ci := 7) (q0 := 0) rfl rfl, fun U hU hW => ⟨rfl, by rw [hU], by rw [hU]; exact hPc, va_K.moved hW.alike hK, hDc.weaken (fun _ _ _ _ => trivial)⟩⟩ rfl rfl hl.1 rfl (lv_room (Nat.le_of_ble_eq_true rfl)) dX10_factsAgainst_37 ⟨Nat.le_of_ble_eq_true rfl, Nat.le_of_ble_eq_true rfl⟩) hS (fun q _ h => hFc q h) hFc (fun u t9 H1 locs ht hvm hw hB hz1 hk1 hS => ?_)
  obtain ⟨sb2_1, su2_2, my2_3⟩ := u
  have hsy := hw
  try dsimp only at hsy
  obtain ⟨hP1, hK1, hD1⟩ := hB
  rw [ht] at hP1
  obtain ⟨hP, hD⟩ := va_join (wr := [(ad 0, .inr (10, [.ref (ad 1), .ref (ad 3), .ref (ad 9), .ref (ad 14), .ref (ad 22), .ref (ad 25), .ref (ad 27), .ref (ad 30), .ref (ad 41), .ref (ad 43)])), (ad 11, .inl (cy 0, 30, .inl di)), (ad 25, .inr (4, [.ref (ad 26)])), (ad 26, .inl (cy 0, 18, .inl tl)), (ad 30, .inr (0, [.ref (ad 31), .ref (ad 32), .ref (ad 33), .ref (ad 34), .ref (ad 35), .ref (ad 36), .ref (ad 37), .ref (ad 38), .ref (ad 39), .ref (ad 40), .int (nI an)])), (ad 31, .inl (cy 0, 40, .inl ap)), (ad 32, .inl (cy 0, 40, .inl as_)), (ad 33, .inl (cy 0, 40, .inl ay))]) (w1 := [(ad 22, .inr (7, [.ref (ad 3), .ref (ad 9), .ref (ad 14), .ref (ad 23), .ref (ad 24), .int sb2_1])), (ad 23, .inl (cy 1, 10, .inr (.inl su2_2))), (ad 24, .inl (cy 1, 10, .inr (.inl my2_3))), (ad 9, .inr (3, [.ref (ad 10), .ref (ad 11), .ref (ad 12), .ref (ad 13), .int (nI pn)])), (ad 13, .inl (cy 0, 30, .inl mk)), (ad 14, .inr (2, [.ref (ad 15), .ref (ad 16), .ref (ad 17), .ref (ad 18), .ref (ad 19), .ref (ad 20), .ref (ad 21), .int (nI qn)])), (ad 15, .inl (cy 0, 100, .inl qp)), (ad 16, .inl (cy 0, 100, .inl qs)), (ad 17, .inl (cy 0, 100, .inl qt)), (ad 18, .inl (cy 0, 100, .inl qm)), (ad 19, .inl (cy 0, 100, .inl qf)), (ad 20, .inl (cy 0, 100, .inl ql)), (ad 21, .inl (cy 2, 100, .inl qx)), (ad 3, .inr (6, [.ref (ad 4), .ref (ad 5), .ref (ad 6), .ref (ad 7), .ref (ad 8), .int (nI sn)])), (ad 4, .inl (cy 0, 40, .inl nb)), (ad 5, .inl (cy 0, 320, .inl fr)), (ad 6, .inl (cy 0, 320, .inl tt)), (ad 7, .inl (cy 0, 320, .inl st)), (ad 8, .inl (cy 0, 320, .inl nu))]) hP hD [1, 2, 3, 4, 5, 6, 7, 8, 9, 10, 11, 12, 13, 14, 15, 16, 17, 18, 19] [0, 20, 21, 22, 23, 24, 25, 26] rfl rfl (by decide) (by decide) hk1 hFc hP1 hD1
  generalize H1 = H at hP hS ⊢
  have hP : va_P (dC, dI) vwCl [(ad 0, .inr (10, [.ref (ad 1), .ref (ad 3), .ref (ad 9), .ref (ad 14), .ref (ad 22), .ref (ad 25), .ref (ad 27), .ref (ad 30), .ref (ad 41), .ref (ad 43)])), (ad 22, .inr (7, [.ref (ad 3), .ref (ad 9), .ref (ad 14), .ref (ad 23), .ref (ad 24), .int sb2_1])), (ad 23, .inl (cy 1, 10, .inr (.inl su2_2))), (ad 24, .inl (cy 1, 10, .inr (.inl my2_3))), (ad 9, .inr (3, [.ref (ad 10), .ref (ad 11), .ref (ad 12), .ref (ad 13), .int (nI pn)])), (ad 13, .inl (cy 0, 30, .inl mk)), (ad 14, .inr (2, [.ref (ad 15), .ref (ad 16), .ref (ad 17), .ref (ad 18), .ref (ad 19), .ref (ad 20), .ref (ad 21), .int (nI qn)])), (ad 15, .inl (cy 0, 100, .inl qp)), (ad 16, .inl (cy 0, 100, .inl qs)), (ad 17, .inl (cy 0, 100, .inl qt)), (ad 18, .inl (cy 0, 100, .inl qm)), (ad 19, .inl (cy 0, 100, .inl qf)), (ad 20, .inl (cy 0, 100, .inl ql)), (ad 21, .inl (cy 2, 100, .inl qx)), (ad 3, .inr (6, [.ref (ad 4), .ref (ad 5), .ref (ad 6), .ref (ad 7), .ref (ad 8), .int (nI sn)])), (ad 4, .inl (cy 0, 40, .inl nb)), (ad 5, .inl (cy 0, 320, .inl fr)), (ad 6, .inl (cy 0, 320, .inl tt)), (ad 7, .inl (cy 0, 320, .inl st)), (ad 8, .inl (cy 0, 320, .inl nu)), (ad 11, .inl (cy 0, 30, .inl di)), (ad 25, .inr (4, [.ref (ad 26)])), (ad 26, .inl (cy 0, 18, .inl tl)), (ad 30, .inr (0, [.ref (ad 31), .ref (ad 32), .ref (ad 33), .ref (ad 34), .ref (ad 35), .ref (ad 36), .ref (ad 37), .ref (ad 38), .ref (ad 39), .ref (ad 40), .int (nI an)])), (ad 31, .inl (cy 0, 40, .inl ap)), (ad 32, .inl (cy 0, 40, .inl as_)), (ad 33, .inl (cy 0, 40, .inl ay))] H := hP.sub [0, 8, 9, 10, 11, 12, 13, 14, 15, 16, 17, 18, 19, 20, 21, 22, 23, 24, 25, 26, 1, 2, 3, 4, 5, 6, 7] rfl
  have hD : va_D A [(ad 0, .inr (10, [.ref (ad 1), .ref (ad 3), .ref (ad 9), .ref (ad 14), .ref (ad 22), .ref (ad 25), .ref (ad 27), .ref (ad 30), .ref (ad 41), .ref (ad 43)])), (ad 22, .inr (7, [.ref (ad 3), .ref (ad 9), .ref (ad 14), .ref (ad 23), .ref (ad 24), .int sb2_1])), (ad 23, .inl (cy 1, 10, .inr (.inl su2_2))), (ad 24, .inl (cy 1, 10, .inr (.inl my2_3))), (ad 9, .inr (3, [.ref (ad 10), .ref (ad 11), .ref (ad 12), .ref (ad 13), .int (nI pn)])), (ad 13, .inl (cy 0, 30, .inl mk)), (ad 14, .inr (2, [.ref (ad 15), .ref (ad 16), .ref (ad 17), .ref (ad 18), .ref (ad 19), .ref (ad 20), .ref (ad 21), .int (nI qn)])), (ad 15, .inl (cy 0, 100, .inl qp)), (ad 16, .inl (cy 0, 100, .inl qs)), (ad 17, .inl (cy 0, 100, .inl qt)), (ad 18, .inl (cy 0, 100, .inl qm)), (ad 19, .inl (cy 0, 100, .inl qf)), (ad 20, .inl (cy 0, 100, .inl ql)), (ad 21, .inl (cy 2, 100, .inl qx)), (ad 3, .inr (6, [.ref (ad 4), .ref (ad 5), .ref (ad 6), .ref (ad 7), .ref (ad 8), .int (nI sn)])), (ad 4, .inl (cy 0, 40, .inl nb)), (ad 5, .inl (cy 0, 320, .inl fr)), (ad 6, .inl (cy 0, 320, .inl tt)), (ad 7, .inl (cy 0, 320, .inl st)), (ad 8, .inl (cy 0, 320, .inl nu)), (ad 11, .inl (cy 0, 30, .inl di)), (ad 25, .inr (4, [.ref (ad 26)])), (ad 26, .inl (cy 0, 18, .inl tl)), (ad 30, .inr (0, [.ref (ad 31), .ref (ad 32), .ref (ad 33), .ref (ad 34), .ref (ad 35), .ref (ad 36), .ref (ad 37), .ref (ad 38), .ref (ad 39), .ref (ad 40), .int (nI an)])), (ad 31, .inl (cy 0, 40, .inl ap)), (ad 32, .inl (cy 0, 40, .inl as_)), (ad 33, .inl (cy 0, 40, .inl ay))] := hD.sub [0, 8, 9, 10, 11, 12, 13, 14, 15, 16, 17, 18, 19, 20, 21, 22, 23, 24, 25, 26, 1, 2, 3, 4, 5, 6, 7] (by decide) rfl
  obtain ⟨s1, s2, bn, hbn, hsb, s3⟩ := hsy
  have hSz : ∀ i, 601 ≤ i → lvB (liv qp qt qm qf ql qx mk (fun t9 m9 y9 => sOnly nb fr tt st nu sn ((as_ a1).toInt.toNat) t9 m9 y9) qn ((ap a1).toInt.toNat)) i = false := fun i hi => liv_hi hq hi
  have hC : fb_ct (fun i9 => Nat.testBit bn i9) 6 = fb_ct (fun j9 => pB (src qp qs qt qm qf ql qx mk (fun t9 m9 y9 => sOnly nb fr tt st nu sn ((as_ a1).toInt.toNat) t9 m9 y9) qn ((ap a1).toInt.toNat) j9)) 6 := fb_ct_cong s3
  have hle1 := fb_ct_le (lvB (liv qp qt qm qf ql qx mk (fun t9 m9 y9 => sOnly nb fr tt st nu sn ((as_ a1).toInt.toNat) t9 m9 y9) qn ((ap a1).toInt.toNat))) 601
  have hle2 := fb_ct_le (fun j9 => pB (src qp qs qt qm qf ql qx mk (fun t9 m9 y9 => sOnly nb fr tt st nu sn ((as_ a1).toInt.toNat) t9 m9 y9) qn ((ap a1).toInt.toNat) j9)) 6
  refine lv_iconst (v := 0) hx hb dX10_factsAgainst_40 (by decide) ?_
  refine lv_istore (lv' := [(5, .int 0), (4, .int (ay a1)), (3, .int (nI ((as_ a1).toInt.toNat))), (2, .int (nI ((ap a1).toInt.toNat))), (0, .ref (ad 0)), (1, .int (nI a1))]) hx hb dX10_factsAgainst_41 hl (by decide) rfl (fun ls hl => ?_)
  refine lv_aload_n hx hb dX10_factsAgainst_43 rfl (lv_at hl 4 rfl) ?_
  refine va_get (D := (dC, dI)) (ci := 10) (v := .ref (ad 9)) (C := RX10) (T := TX10) (N := 10) hx hb hts hiX10 hown hK hP 0 rfl rfl 2 (by decide) hL5 (fun _ h9 => h9) rfl dX10_factsAgainst_44 ?_
  refine va_get (D := (dC, dI)) (ci := 3) (v := .ref (ad 11)) (C := RX3) (T := TX3) (N := 5) hx hb hts hiX3 hown hK hP 4 rfl rfl 1 (by decide) hL6 (fun _ h9 => h9) rfl dX10_factsAgainst_47 ?_
  refine lv_iload_n hx hb dX10_factsAgainst_50 rfl (lv_at hl 3 rfl) ?_
  refine bw_iald hx hb hK hP 20 0 rfl rfl (j := ((ap a1).toInt.toNat)) (nI_toInt (by omega)) (by omega) dX10_factsAgainst_51 ?_
  refine lv_iconst (v := (-1)) hx hb dX10_factsAgainst_52 (by decide) ?_
  have L_86 : ∀ (b : Int32), (b = fl ((di ((ap a1).toInt.toNat)).toInt = -1 ∨ (ay a1).toInt - (di ((ap a1).toInt.toNat)).toInt < (tl 0).toInt) 1) → ∀ (H : Heap) (locs : List Loc), va_P (dC, dI) vwCl [(ad 0, .inr (10, [.ref (ad 1), .ref (ad 3), .ref (ad 9), .ref (ad 14), .ref (ad 22), .ref (ad 25), .ref (ad 27), .ref (ad 30), .ref (ad 41), .ref (ad 43)])), (ad 22, .inr (7, [.ref (ad 3), .ref (ad 9), .ref (ad 14), .ref (ad 23), .ref (ad 24), .int sb2_1])), (ad 23, .inl (cy 1, 10, .inr (.inl su2_2))), (ad 24, .inl (cy 1, 10, .inr (.inl my2_3))), (ad 9, .inr (3, [.ref (ad 10), .ref (ad 11), .ref (ad 12), .ref (ad 13), .int (nI pn)])), (ad 13, .inl (cy 0, 30, .inl mk)), (ad 14, .inr (2, [.ref (ad 15), .ref (ad 16), .ref (ad 17), .ref (ad 18), .ref (ad 19), .ref (ad 20), .ref (ad 21), .int (nI qn)])), (ad 15, .inl (cy 0, 100, .inl qp)), (ad 16, .inl (cy 0, 100, .inl qs)), (ad 17, .inl (cy 0, 100, .inl qt)), (ad 18, .inl (cy 0, 100, .inl qm)), (ad 19, .inl (cy 0, 100, .inl qf)), (ad 20, .inl (cy 0, 100, .inl ql)), (ad 21, .inl (cy 2, 100, .inl qx)), (ad 3, .inr (6, [.ref (ad 4), .ref (ad 5), .ref (ad 6), .ref (ad 7), .ref (ad 8), .int (nI sn)])), (ad 4, .inl (cy 0, 40, .inl nb)), (ad 5, .inl (cy 0, 320, .inl fr)), (ad 6, .inl (cy 0, 320, .inl tt)), (ad 7, .inl (cy 0, 320, .inl st)), (ad 8, .inl (cy 0, 320, .inl nu)), (ad 11, .inl (cy 0, 30, .inl di)), (ad 25, .inr (4, [.ref (ad 26)])), (ad 26, .inl (cy 0, 18, .inl tl)), (ad 30, .inr (0, [.ref (ad 31), .ref (ad 32), .ref (ad 33), .ref (ad 34), .ref (ad 35), .ref (ad 36), .ref (ad 37), .ref (ad 38), .ref (ad 39), .ref (ad 40), .int (nI an)])), (ad 31, .inl (cy 0, 40, .inl ap)), (ad 32, .inl (cy 0, 40, .inl as_)), (ad 33, .inl (cy 0, 40, .inl ay))] H → va_D A [(ad 0, .inr (10, [.ref (ad 1), .ref (ad 3), .ref (ad 9), .ref (ad 14), .ref (ad 22), .ref (ad 25), .ref (ad 27), .ref (ad 30), .ref (ad 41), .ref (ad 43)])), (ad 22, .inr (7, [.ref (ad 3), .ref (ad 9), .ref (ad 14), .ref (ad 23), .ref (ad 24), .int sb2_1])), (ad 23, .inl (cy 1, 10, .inr (.inl su2_2))), (ad 24, .inl (cy 1, 10, .inr (.inl my2_3))), (ad 9, .inr (3, [.ref (ad 10), .ref (ad 11), .ref (ad 12), .ref (ad 13), .int (nI pn)])), (ad 13, .inl (cy 0, 30, .inl mk)), (ad 14, .inr (2, [.ref (ad 15), .ref (ad 16), .ref (ad 17), .ref (ad 18), .ref (ad 19), .ref (ad 20), .ref (ad 21), .int (nI qn)])), (ad 15, .inl (cy 0, 100, .inl qp)), (ad 16, .inl (cy 0, 100, .inl qs)), (ad 17, .inl (cy 0, 100, .inl qt)), (ad 18, .inl (cy 0, 100, .inl qm)), (ad 19, .inl (cy 0, 100, .inl qf)), (ad 20, .inl (cy 0, 100, .inl ql)), (ad 21, .inl (cy 2, 100, .inl qx)), (ad 3, .inr (6, [.ref (ad 4), .ref (ad 5), .ref (ad 6), .ref (ad 7), .ref (ad 8), .int (nI sn)])), (ad 4, .inl (cy 0, 40, .inl nb)), (ad 5, .inl (cy 0, 320, .inl fr)), (ad 6, .inl (cy 0, 320, .inl tt)), (ad 7, .inl (cy 0, 320, .inl st)), (ad 8, .inl (cy 0, 320, .inl nu)), (ad 11, .inl (cy 0, 30, .inl di)), (ad 25, .inr (4, [.ref (ad 26)])), (ad 26, .inl (cy 0, 18, .inl tl)), (ad 30, .inr (0, [.ref (ad 31), .ref (ad 32), .ref (ad 33), .ref (ad 34), .ref (ad 35), .ref (ad 36), .ref (ad 37), .ref (ad 38), .ref (ad 39), .ref (ad 40), .int (nI an)])), (ad 31, .inl (cy 0, 40, .inl ap)), (ad 32, .inl (cy 0, 40, .inl as_)), (ad 33, .inl (cy 0, 40, .inl ay))] → va_S A ss.heap H locs → ∀ (ls : Array Slot), lv_has ls 7 [(0, .ref (ad 0)), (2, .int (nI ((ap a1).toInt.toNat))), (3, .int (nI ((as_ a1).toInt.toNat))), (4, .int (ay a1)), (5, .int b)] → W pp l ee { frames := 5, cells := 0, slots := 0, locals := 136 } ss mm (List.toArray [Value.ref (ad 0), Value.int (nI a1)]) below meth cc0 H locs 0 0 Q (F0 mm 86 ls []) := by
    intro b hbb
    intro H locs hP hD hS
    intro ls hl
    refine lv_aload_n hx hb dX10_factsAgainst_86 rfl (lv_at hl 0 rfl) ?_
    refine va_get (D := (dC, dI)) (ci := 10) (v := .ref (ad 22)) (C := RX10) (T := TX10) (N := 10) hx hb hts hiX10 hown hK hP 0 rfl rfl 4 (by decide) hL4 (fun _ h9 => h9) rfl dX10_factsAgainst_87 ?_
    have hPc : va_P (dC, dI) vwCl [(ad 22, .inr (7, [.ref (ad 3), .ref (ad 9), .ref (ad 14), .ref (ad 23), .ref (ad 24), .int sb2_1])), (ad 23, .inl (cy 1, 10, .inr (.inl su2_2)))] H := hP.sub [1, 2] rfl
    refine vp_callSi (va_Run.run (va_runV (As := []) (rest := []) ⟨hx, hb, hml, hown, hts⟩ (c_X7_sureYears l dC dI cy ad sb2_1 su2_2) (cwV 0 hts gX10_factsAgainst_X7_sureYears rfl rfl rfl (by decide +kernel) ⟨Nat.le_of_ble_eq_true rfl, Nat.le_of_ble_eq_true rfl⟩) ⟨fun a U g mk q => by obtain ⟨q0, qP, qK⟩ := q; exact ⟨q0, qP, va_K.moved (u := U) (U := U.calling g mk a) (Vm.Alike.refl U.vm) qK⟩, va_recv hK hPc (ci := 7) (q0 := 0) rfl rfl, fun U hU hW => ⟨rfl, by rw [hU]; exact hPc, va_K.moved hW.alike hK⟩⟩ rfl rfl hl.1 rfl (lv_room (Nat.le_of_ble_eq_true rfl)) dX10_factsAgainst_90 ⟨Nat.le_of_ble_eq_true rfl, Nat.le_of_ble_eq_true rfl⟩)) (fun r_4 hr_4 => ?_)
    rw [hr_4]
    refine bw_re (show (nI (fb_ct (rb su2_2) 640)) = nI (fb_ct (lvB (liv qp qt qm qf ql qx mk (fun t9 m9 y9 => sOnly nb fr tt st nu sn ((as_ a1).toInt.toNat) t9 m9 y9) qn ((ap a1).toInt.toNat))) 601) from congrArg nI (ct_640 s1 hSz)) ?_
    refine lv_aload_n hx hb dX10_factsAgainst_93 rfl (lv_at hl 0 rfl) ?_
    refine va_get (D := (dC, dI)) (ci := 10) (v := .ref (ad 25)) (C := RX10) (T := TX10) (N := 10) hx hb hts hiX10 hown hK hP 0 rfl rfl 5 (by decide) hL7 (fun _ h9 => h9) rfl dX10_factsAgainst_94 ?_
    refine va_get (D := (dC, dI)) (ci := 4) (v := .ref (ad 26)) (C := RX4) (T := TX4) (N := 1) hx hb hts hiX4 hown hK hP 21 rfl rfl 0 (by decide) hL8 (fun _ h9 => h9) rfl dX10_factsAgainst_97 ?_
    refine lv_iconst (v := 1) hx hb dX10_factsAgainst_100 (by decide) ?_
    refine bw_iald hx hb hK hP 22 0 rfl rfl (j := 1) rfl (by omega) dX10_factsAgainst_101 ?_
    have L_111 : ∀ (b : Int32), (b = fl ((di ((ap a1).toInt.toNat)).toInt = -1 ∨ (ay a1).toInt - (di ((ap a1).toInt.toNat)).toInt < (tl 0).toInt) 1 ||| fl ((((fb_ct (lvB (liv qp qt qm qf ql qx mk (fun t9 m9 y9 => sOnly nb fr tt st nu sn ((as_ a1).toInt.toNat) t9 m9 y9) qn ((ap a1).toInt.toNat))) 601 : Nat)) : Int) < (tl 1).toInt) 2) → ∀ (H : Heap) (locs : List Loc), va_P (dC, dI) vwCl [(ad 0, .inr (10, [.ref (ad 1), .ref (ad 3), .ref (ad 9), .ref (ad 14), .ref (ad 22), .ref (ad 25), .ref (ad 27), .ref (ad 30), .ref (ad 41), .ref (ad 43)])), (ad 22, .inr (7, [.ref (ad 3), .ref (ad 9), .ref (ad 14), .ref (ad 23), .ref (ad 24), .int sb2_1])), (ad 23, .inl (cy 1, 10, .inr (.inl su2_2))), (ad 24, .inl (cy 1, 10, .inr (.inl my2_3))), (ad 9, .inr (3, [.ref (ad 10), .ref (ad 11), .ref (ad 12), .ref (ad 13), .int (nI pn)])), (ad 13, .inl (cy 0, 30, .inl mk)), (ad 14, .inr (2, [.ref (ad 15), .ref (ad 16), .ref (ad 17), .ref (ad 18), .ref (ad 19), .ref (ad 20), .ref (ad 21), .int (nI qn)])), (ad 15, .inl (cy 0, 100, .inl qp)), (ad 16, .inl (cy 0, 100, .inl qs)), (ad 17, .inl (cy 0, 100, .inl qt)), (ad 18, .inl (cy 0, 100, .inl qm)), (ad 19, .inl (cy 0, 100, .inl qf)), (ad 20, .inl (cy 0, 100, .inl ql)), (ad 21, .inl (cy 2, 100, .inl qx)), (ad 3, .inr (6, [.ref (ad 4), .ref (ad 5), .ref (ad 6), .ref (ad 7), .ref (ad 8), .int (nI sn)])), (ad 4, .inl (cy 0, 40, .inl nb)), (ad 5, .inl (cy 0, 320, .inl fr)), (ad 6, .inl (cy 0, 320, .inl tt)), (ad 7, .inl (cy 0, 320, .inl st)), (ad 8, .inl (cy 0, 320, .inl nu)), (ad 11, .inl (cy 0, 30, .inl di)), (ad 25, .inr (4, [.ref (ad 26)])), (ad 26, .inl (cy 0, 18, .inl tl)), (ad 30, .inr (0, [.ref (ad 31), .ref (ad 32), .ref (ad 33), .ref (ad 34), .ref (ad 35), .ref (ad 36), .ref (ad 37), .ref (ad 38), .ref (ad 39), .ref (ad 40), .int (nI an)])), (ad 31, .inl (cy 0, 40, .inl ap)), (ad 32, .inl (cy 0, 40, .inl as_)), (ad 33, .inl (cy 0, 40, .inl ay))] H → va_D A [(ad 0, .inr (10, [.ref (ad 1), .ref (ad 3), .ref (ad 9), .ref (ad 14), .ref (ad 22), .ref (ad 25), .ref (ad 27), .ref (ad 30), .ref (ad 41), .ref (ad 43)])), (ad 22, .inr (7, [.ref (ad 3), .ref (ad 9), .ref (ad 14), .ref (ad 23), .ref (ad 24), .int sb2_1])), (ad 23, .inl (cy 1, 10, .inr (.inl su2_2))), (ad 24, .inl (cy 1, 10, .inr (.inl my2_3))), (ad 9, .inr (3, [.ref (ad 10), .ref (ad 11), .ref (ad 12), .ref (ad 13), .int (nI pn)])), (ad 13, .inl (cy 0, 30, .inl mk)), (ad 14, .inr (2, [.ref (ad 15), .ref (ad 16), .ref (ad 17), .ref (ad 18), .ref (ad 19), .ref (ad 20), .ref (ad 21), .int (nI qn)])), (ad 15, .inl (cy 0, 100, .inl qp)), (ad 16, .inl (cy 0, 100, .inl qs)), (ad 17, .inl (cy 0, 100, .inl qt)), (ad 18, .inl (cy 0, 100, .inl qm)), (ad 19, .inl (cy 0, 100, .inl qf)), (ad 20, .inl (cy 0, 100, .inl ql)), (ad 21, .inl (cy 2, 100, .inl qx)), (ad 3, .inr (6, [.ref (ad 4), .ref (ad 5), .ref (ad 6), .ref (ad 7), .ref (ad 8), .int (nI sn)])), (ad 4, .inl (cy 0, 40, .inl nb)), (ad 5, .inl (cy 0, 320, .inl fr)), (ad 6, .inl (cy 0, 320, .inl tt)), (ad 7, .inl (cy 0, 320, .inl st)), (ad 8, .inl (cy 0, 320, .inl nu)), (ad 11, .inl (cy 0, 30, .inl di)), (ad 25, .inr (4, [.ref (ad 26)])), (ad 26, .inl (cy 0, 18, .inl tl)), (ad 30, .inr (0, [.ref (ad 31), .ref (ad 32), .ref (ad 33), .ref (ad 34), .ref (ad 35), .ref (ad 36), .ref (ad 37), .ref (ad 38), .ref (ad 39), .ref (ad 40), .int (nI an)])), (ad 31, .inl (cy 0, 40, .inl ap)), (ad 32, .inl (cy 0, 40, .inl as_)), (ad 33, .inl (cy 0, 40, .inl ay))] → va_S A ss.heap H locs → ∀ (ls : Array Slot), lv_has ls 7 [(0, .ref (ad 0)), (2, .int (nI ((ap a1).toInt.toNat))), (3, .int (nI ((as_ a1).toInt.toNat))), (4, .int (ay a1)), (5, .int b)] → W pp l ee { frames := 5, cells := 0, slots := 0, locals := 136 } ss mm (List.toArray [Value.ref (ad 0), Value.int (nI a1)]) below meth cc0 H locs 0 0 Q (F0 mm 111 ls []) := by
      intro b hbb
      intro H locs hP hD hS
      intro ls hl
      refine lv_aload_n hx hb dX10_factsAgainst_111 rfl (lv_at hl 0 rfl) ?_
      refine va_get (D := (dC, dI)) (ci := 10) (v := .ref (ad 22)) (C := RX10) (T := TX10) (N := 10) hx hb hts hiX10 hown hK hP 0 rfl rfl 4 (by decide) hL4 (fun _ h9 => h9) rfl dX10_factsAgainst_112 ?_
      have hPc : va_P (dC, dI) vwCl [(ad 22, .inr (7, [.ref (ad 3), .ref (ad 9), .ref (ad 14), .ref (ad 23), .ref (ad 24), .int sb2_1]))] H := hP.sub [1] rfl
      refine vp_callSi (va_Run.run (va_runV (As := []) (rest := []) ⟨hx, hb, hml, hown, hts⟩ (c_X7_sources l dC dI cy ad sb2_1 bn (by first | assumption | omega) (by first | assumption | omega)) (cwV 0 hts gX10_factsAgainst_X7_sources rfl rfl rfl (by decide +kernel) ⟨Nat.le_of_ble_eq_true rfl, Nat.le_of_ble_eq_true rfl⟩) ⟨fun a U g mk q => by obtain ⟨q0, qP, qK⟩ := q; exact ⟨q0, qP, va_K.moved (u := U) (U := U.calling g mk a) (Vm.Alike.refl U.vm) qK⟩, va_recv hK hPc (ci := 7) (q0 := 0) rfl rfl, fun U hU hW => ⟨rfl, by rw [hU]; exact hPc, va_K.moved hW.alike hK⟩⟩ rfl rfl hl.1 rfl (lv_room (Nat.le_of_ble_eq_true rfl)) dX10_factsAgainst_115 ⟨Nat.le_of_ble_eq_true rfl, Nat.le_of_ble_eq_true rfl⟩)) (fun r_5 hr_5 => ?_)
      rw [hr_5]
      refine bw_re (show (nI (fb_ct (fun i9 => Nat.testBit bn i9) 6)) = nI (fb_ct (fun j9 => pB (src qp qs qt qm qf ql qx mk (fun t9 m9 y9 => sOnly nb fr tt st nu sn ((as_ a1).toInt.toNat) t9 m9 y9) qn ((ap a1).toInt.toNat) j9)) 6) from congrArg nI hC) ?_
      refine lv_aload_n hx hb dX10_factsAgainst_118 rfl (lv_at hl 0 rfl) ?_
      refine va_get (D := (dC, dI)) (ci := 10) (v := .ref (ad 25)) (C := RX10) (T := TX10) (N := 10) hx hb hts hiX10 hown hK hP 0 rfl rfl 5 (by decide) hL7 (fun _ h9 => h9) rfl dX10_factsAgainst_119 ?_
      refine va_get (D := (dC, dI)) (ci := 4) (v := .ref (ad 26)) (C := RX4) (T := TX4) (N := 1) hx hb hts hiX4 hown hK hP 21 rfl rfl 0 (by decide) hL8 (fun _ h9 => h9) rfl dX10_factsAgainst_122 ?_
      refine lv_iconst (v := 2) hx hb dX10_factsAgainst_125 (by decide) ?_
      refine bw_iald hx hb hK hP 22 0 rfl rfl (j := 2) rfl (by omega) dX10_factsAgainst_126 ?_
      have L_136 : ∀ (b : Int32), (b = fl ((di ((ap a1).toInt.toNat)).toInt = -1 ∨ (ay a1).toInt - (di ((ap a1).toInt.toNat)).toInt < (tl 0).toInt) 1 ||| fl ((((fb_ct (lvB (liv qp qt qm qf ql qx mk (fun t9 m9 y9 => sOnly nb fr tt st nu sn ((as_ a1).toInt.toNat) t9 m9 y9) qn ((ap a1).toInt.toNat))) 601 : Nat)) : Int) < (tl 1).toInt) 2 ||| fl ((((fb_ct (fun j9 => pB (src qp qs qt qm qf ql qx mk (fun t9 m9 y9 => sOnly nb fr tt st nu sn ((as_ a1).toInt.toNat) t9 m9 y9) qn ((ap a1).toInt.toNat) j9)) 6 : Nat)) : Int) < (tl 2).toInt) 4) → ∀ (H : Heap) (locs : List Loc), va_P (dC, dI) vwCl [(ad 0, .inr (10, [.ref (ad 1), .ref (ad 3), .ref (ad 9), .ref (ad 14), .ref (ad 22), .ref (ad 25), .ref (ad 27), .ref (ad 30), .ref (ad 41), .ref (ad 43)])), (ad 22, .inr (7, [.ref (ad 3), .ref (ad 9), .ref (ad 14), .ref (ad 23), .ref (ad 24), .int sb2_1])), (ad 23, .inl (cy 1, 10, .inr (.inl su2_2))), (ad 24, .inl (cy 1, 10, .inr (.inl my2_3))), (ad 9, .inr (3, [.ref (ad 10), .ref (ad 11), .ref (ad 12), .ref (ad 13), .int (nI pn)])), (ad 13, .inl (cy 0, 30, .inl mk)), (ad 14, .inr (2, [.ref (ad 15), .ref (ad 16), .ref (ad 17), .ref (ad 18), .ref (ad 19), .ref (ad 20), .ref (ad 21), .int (nI qn)])), (ad 15, .inl (cy 0, 100, .inl qp)), (ad 16, .inl (cy 0, 100, .inl qs)), (ad 17, .inl (cy 0, 100, .inl qt)), (ad 18, .inl (cy 0, 100, .inl qm)), (ad 19, .inl (cy 0, 100, .inl qf)), (ad 20, .inl (cy 0, 100, .inl ql)), (ad 21, .inl (cy 2, 100, .inl qx)), (ad 3, .inr (6, [.ref (ad 4), .ref (ad 5), .ref (ad 6), .ref (ad 7), .ref (ad 8), .int (nI sn)])), (ad 4, .inl (cy 0, 40, .inl nb)), (ad 5, .inl (cy 0, 320, .inl fr)), (ad 6, .inl (cy 0, 320, .inl tt)), (ad 7, .inl (cy 0, 320, .inl st)), (ad 8, .inl (cy 0, 320, .inl nu)), (ad 11, .inl (cy 0, 30, .inl di)), (ad 25, .inr (4, [.ref (ad 26)])), (ad 26, .inl (cy 0, 18, .inl tl)), (ad 30, .inr (0, [.ref (ad 31), .ref (ad 32), .ref (ad 33), .ref (ad 34), .ref (ad 35), .ref (ad 36), .ref (ad 37), .ref (ad 38), .ref (ad 39), .ref (ad 40), .int (nI an)])), (ad 31, .inl (cy 0, 40, .inl ap)), (ad 32, .inl (cy 0, 40, .inl as_)), (ad 33, .inl (cy 0, 40, .inl ay))] H → va_D A [(ad 0, .inr (10, [.ref (ad 1), .ref (ad 3), .ref (ad 9), .ref (ad 14), .ref (ad 22), .ref (ad 25), .ref (ad 27), .ref (ad 30), .ref (ad 41), .ref (ad 43)])), (ad 22, .inr (7, [.ref (ad 3), .ref (ad 9), .ref (ad 14), .ref (ad 23), .ref (ad 24), .int sb2_1])), (ad 23, .inl (cy 1, 10, .inr (.inl su2_2))), (ad 24, .inl (cy 1, 10, .inr (.inl my2_3))), (ad 9, .inr (3, [.ref (ad 10), .ref (ad 11), .ref (ad 12), .ref (ad 13), .int (nI pn)])), (ad 13, .inl (cy 0, 30, .inl mk)), (ad 14, .inr (2, [.ref (ad 15), .ref (ad 16), .ref (ad 17), .ref (ad 18), .ref (ad 19), .ref (ad 20), .ref (ad 21), .int (nI qn)])), (ad 15, .inl (cy 0, 100, .inl qp)), (ad 16, .inl (cy 0, 100, .inl qs)), (ad 17, .inl (cy 0, 100, .inl qt)), (ad 18, .inl (cy 0, 100, .inl qm)), (ad 19, .inl (cy 0, 100, .inl qf)), (ad 20, .inl (cy 0, 100, .inl ql)), (ad 21, .inl (cy 2, 100, .inl qx)), (ad 3, .inr (6, [.ref (ad 4), .ref (ad 5), .ref (ad 6), .ref (ad 7), .ref (ad 8), .int (nI sn)])), (ad 4, .inl (cy 0, 40, .inl nb)), (ad 5, .inl (cy 0, 320, .inl fr)), (ad 6, .inl (cy 0, 320, .inl tt)), (ad 7, .inl (cy 0, 320, .inl st)), (ad 8, .inl (cy 0, 320, .inl nu)), (ad 11, .inl (cy 0, 30, .inl di)), (ad 25, .inr (4, [.ref (ad 26)])), (ad 26, .inl (cy 0, 18, .inl tl)), (ad 30, .inr (0, [.ref (ad 31), .ref (ad 32), .ref (ad 33), .ref (ad 34), .ref (ad 35), .ref (ad 36), .ref (ad 37), .ref (ad 38), .ref (ad 39), .ref (ad 40), .int (nI an)])), (ad 31, .inl (cy 0, 40, .inl ap)), (ad 32, .inl (cy 0, 40, .inl as_)), (ad 33, .inl (cy 0, 40, .inl ay))] → va_S A ss.heap H locs → ∀ (ls : Array Slot), lv_has ls 7 [(0, .ref (ad 0)), (2, .int (nI ((ap a1).toInt.toNat))), (3, .int (nI ((as_ a1).toInt.toNat))), (4, .int (ay a1)), (5, .int b)] → W pp l ee { frames := 5, cells := 0, slots := 0, locals := 136 } ss mm (List.toArray [Value.ref (ad 0), Value.int (nI a1)]) below meth cc0 H locs 0 0 Q (F0 mm 136 ls []) := by
        intro b hbb
        intro H locs hP hD hS
        intro ls hl
        refine lv_aload_n hx hb dX10_factsAgainst_136 rfl (lv_at hl 0 rfl) ?_
        refine va_get (D := (dC, dI)) (ci := 10) (v := .ref (ad 3)) (C := RX10) (T := TX10) (N := 10) hx hb hts hiX10 hown hK hP 0 rfl rfl 1 (by decide) hL9 (fun _ h9 => h9) rfl dX10_factsAgainst_137 ?_
        refine lv_iload_n hx hb dX10_factsAgainst_140 rfl (lv_at hl 2 rfl) ?_
        refine lv_iload hx hb dX10_factsAgainst_141 (lv_at hl 3 rfl) ?_
        have hPc : va_P (dC, dI) vwCl [(ad 3, .inr (6, [.ref (ad 4), .ref (ad 5), .ref (ad 6), .ref (ad 7), .ref (ad 8), .int (nI sn)])), (ad 4, .inl (cy 0, 40, .inl nb)), (ad 5, .inl (cy 0, 320, .inl fr)), (ad 6, .inl (cy 0, 320, .inl tt)), (ad 8, .inl (cy 0, 320, .inl nu))] H := hP.sub [14, 15, 16, 17, 19] rfl
        refine vp_callSi (va_Run.run (va_runV (As := [.int (nI ((as_ a1).toInt.toNat)), .int (ay a1)]) (rest := []) ⟨hx, hb, hml, hown, hts⟩ (c_X6_surelyNumbered l dC dI cy ad sn nb fr tt nu ((as_ a1).toInt.toNat) kk (ay a1) (by first | assumption | omega) (by first | assumption | omega) (by first | assumption | omega) (by first | assumption | omega)) (cwV 2 hts gX10_factsAgainst_X6_surelyNumbered rfl rfl rfl (by decide +kernel) ⟨Nat.le_of_ble_eq_true rfl, Nat.le_of_ble_eq_true rfl⟩) ⟨fun a U g mk q => by obtain ⟨q0, qP, qK⟩ := q; exact ⟨q0, qP, va_K.moved (u := U) (U := U.calling g mk a) (Vm.Alike.refl U.vm) qK⟩, va_recv hK hPc (ci := 6) (q0 := 0) rfl rfl, fun U hU hW => ⟨rfl, by rw [hU]; exact hPc, va_K.moved hW.alike hK⟩⟩ rfl rfl hl.1 rfl (lv_room (Nat.le_of_ble_eq_true rfl)) dX10_factsAgainst_143 ⟨Nat.le_of_ble_eq_true rfl, Nat.le_of_ble_eq_true rfl⟩)) (fun r_6 hr_6 => ?_)
        have L_156 : ∀ (b : Int32), (b = fl ((di ((ap a1).toInt.toNat)).toInt = -1 ∨ (ay a1).toInt - (di ((ap a1).toInt.toNat)).toInt < (tl 0).toInt) 1 ||| fl ((((fb_ct (lvB (liv qp qt qm qf ql qx mk (fun t9 m9 y9 => sOnly nb fr tt st nu sn ((as_ a1).toInt.toNat) t9 m9 y9) qn ((ap a1).toInt.toNat))) 601 : Nat)) : Int) < (tl 1).toInt) 2 ||| fl ((((fb_ct (fun j9 => pB (src qp qs qt qm qf ql qx mk (fun t9 m9 y9 => sOnly nb fr tt st nu sn ((as_ a1).toInt.toNat) t9 m9 y9) qn ((ap a1).toInt.toNat) j9)) 6 : Nat)) : Int) < (tl 2).toInt) 4 ||| fl (¬ sNumTo fr tt nu ((as_ a1).toInt.toNat * 8) ((as_ a1).toInt.toNat * 8 + kn nb ((as_ a1).toInt.toNat)) ((as_ a1).toInt.toNat * 8 + kn nb ((as_ a1).toInt.toNat)) (ay a1).toInt) 8) → ∀ (H : Heap) (locs : List Loc), va_P (dC, dI) vwCl [(ad 0, .inr (10, [.ref (ad 1), .ref (ad 3), .ref (ad 9), .ref (ad 14), .ref (ad 22), .ref (ad 25), .ref (ad 27), .ref (ad 30), .ref (ad 41), .ref (ad 43)])), (ad 22, .inr (7, [.ref (ad 3), .ref (ad 9), .ref (ad 14), .ref (ad 23), .ref (ad 24), .int sb2_1])), (ad 23, .inl (cy 1, 10, .inr (.inl su2_2))), (ad 24, .inl (cy 1, 10, .inr (.inl my2_3))), (ad 9, .inr (3, [.ref (ad 10), .ref (ad 11), .ref (ad 12), .ref (ad 13), .int (nI pn)])), (ad 13, .inl (cy 0, 30, .inl mk)), (ad 14, .inr (2, [.ref (ad 15), .ref (ad 16), .ref (ad 17), .ref (ad 18), .ref (ad 19), .ref (ad 20), .ref (ad 21), .int (nI qn)])), (ad 15, .inl (cy 0, 100, .inl qp)), (ad 16, .inl (cy 0, 100, .inl qs)), (ad 17, .inl (cy 0, 100, .inl qt)), (ad 18, .inl (cy 0, 100, .inl qm)), (ad 19, .inl (cy 0, 100, .inl qf)), (ad 20, .inl (cy 0, 100, .inl ql)), (ad 21, .inl (cy 2, 100, .inl qx)), (ad 3, .inr (6, [.ref (ad 4), .ref (ad 5), .ref (ad 6), .ref (ad 7), .ref (ad 8), .int (nI sn)])), (ad 4, .inl (cy 0, 40, .inl nb)), (ad 5, .inl (cy 0, 320, .inl fr)), (ad 6, .inl (cy 0, 320, .inl tt)), (ad 7, .inl (cy 0, 320, .inl st)), (ad 8, .inl (cy 0, 320, .inl nu)), (ad 11, .inl (cy 0, 30, .inl di)), (ad 25, .inr (4, [.ref (ad 26)])), (ad 26, .inl (cy 0, 18, .inl tl)), (ad 30, .inr (0, [.ref (ad 31), .ref (ad 32), .ref (ad 33), .ref (ad 34), .ref (ad 35), .ref (ad 36), .ref (ad 37), .ref (ad 38), .ref (ad 39), .ref (ad 40), .int (nI an)])), (ad 31, .inl (cy 0, 40, .inl ap)), (ad 32, .inl (cy 0, 40, .inl as_)), (ad 33, .inl (cy 0, 40, .inl ay))] H → va_D A [(ad 0, .inr (10, [.ref (ad 1), .ref (ad 3), .ref (ad 9), .ref (ad 14), .ref (ad 22), .ref (ad 25), .ref (ad 27), .ref (ad 30), .ref (ad 41), .ref (ad 43)])), (ad 22, .inr (7, [.ref (ad 3), .ref (ad 9), .ref (ad 14), .ref (ad 23), .ref (ad 24), .int sb2_1])), (ad 23, .inl (cy 1, 10, .inr (.inl su2_2))), (ad 24, .inl (cy 1, 10, .inr (.inl my2_3))), (ad 9, .inr (3, [.ref (ad 10), .ref (ad 11), .ref (ad 12), .ref (ad 13), .int (nI pn)])), (ad 13, .inl (cy 0, 30, .inl mk)), (ad 14, .inr (2, [.ref (ad 15), .ref (ad 16), .ref (ad 17), .ref (ad 18), .ref (ad 19), .ref (ad 20), .ref (ad 21), .int (nI qn)])), (ad 15, .inl (cy 0, 100, .inl qp)), (ad 16, .inl (cy 0, 100, .inl qs)), (ad 17, .inl (cy 0, 100, .inl qt)), (ad 18, .inl (cy 0, 100, .inl qm)), (ad 19, .inl (cy 0, 100, .inl qf)), (ad 20, .inl (cy 0, 100, .inl ql)), (ad 21, .inl (cy 2, 100, .inl qx)), (ad 3, .inr (6, [.ref (ad 4), .ref (ad 5), .ref (ad 6), .ref (ad 7), .ref (ad 8), .int (nI sn)])), (ad 4, .inl (cy 0, 40, .inl nb)), (ad 5, .inl (cy 0, 320, .inl fr)), (ad 6, .inl (cy 0, 320, .inl tt)), (ad 7, .inl (cy 0, 320, .inl st)), (ad 8, .inl (cy 0, 320, .inl nu)), (ad 11, .inl (cy 0, 30, .inl di)), (ad 25, .inr (4, [.ref (ad 26)])), (ad 26, .inl (cy 0, 18, .inl tl)), (ad 30, .inr (0, [.ref (ad 31), .ref (ad 32), .ref (ad 33), .ref (ad 34), .ref (ad 35), .ref (ad 36), .ref (ad 37), .ref (ad 38), .ref (ad 39), .ref (ad 40), .int (nI an)])), (ad 31, .inl (cy 0, 40, .inl ap)), (ad 32, .inl (cy 0, 40, .inl as_)), (ad 33, .inl (cy 0, 40, .inl ay))] → va_S A ss.heap H locs → ∀ (ls : Array Slot), lv_has ls 7 [(0, .ref (ad 0)), (2, .int (nI ((ap a1).toInt.toNat))), (3, .int (nI ((as_ a1).toInt.toNat))), (4, .int (ay a1)), (5, .int b)] → W pp l ee { frames := 5, cells := 0, slots := 0, locals := 136 } ss mm (List.toArray [Value.ref (ad 0), Value.int (nI a1)]) below meth cc0 H locs 0 0 Q (F0 mm 156 ls []) := by
          intro b hbb
          intro H locs hP hD hS
          intro ls hl
          refine lv_aload_n hx hb dX10_factsAgainst_156 rfl (lv_at hl 0 rfl) ?_
          refine va_get (D := (dC, dI)) (ci := 10) (v := .ref (ad 22)) (C := RX10) (T := TX10) (N := 10) hx hb hts hiX10 hown hK hP 0 rfl rfl 4 (by decide) hL4 (fun _ h9 => h9) rfl dX10_factsAgainst_157 ?_
          have hPc : va_P (dC, dI) vwCl [(ad 22, .inr (7, [.ref (ad 3), .ref (ad 9), .ref (ad 14), .ref (ad 23), .ref (ad 24), .int sb2_1])), (ad 23, .inl (cy 1, 10, .inr (.inl su2_2)))] H := hP.sub [1, 2] rfl
          refine vp_callSi (va_Run.run (va_runV (As := []) (rest := []) ⟨hx, hb, hml, hown, hts⟩ (c_X7_lastSureYear l dC dI cy ad sb2_1 su2_2) (cwV 0 hts gX10_factsAgainst_X7_lastSureYear rfl rfl rfl (by decide +kernel) ⟨Nat.le_of_ble_eq_true rfl, Nat.le_of_ble_eq_true rfl⟩) ⟨fun a U g mk q => by obtain ⟨q0, qP, qK⟩ := q; exact ⟨q0, qP, va_K.moved (u := U) (U := U.calling g mk a) (Vm.Alike.refl U.vm) qK⟩, va_recv hK hPc (ci := 7) (q0 := 0) rfl rfl, fun U hU hW => ⟨rfl, by rw [hU]; exact hPc, va_K.moved hW.alike hK⟩⟩ rfl rfl hl.1 rfl (lv_room (Nat.le_of_ble_eq_true rfl)) dX10_factsAgainst_160 ⟨Nat.le_of_ble_eq_true rfl, Nat.le_of_ble_eq_true rfl⟩)) (fun rl_ hrl_ => ?_)
          have hlst : lstIs (lvB (liv qp qt qm qf ql qx mk (fun t9 m9 y9 => sOnly nb fr tt st nu sn ((as_ a1).toInt.toNat) t9 m9 y9) qn ((ap a1).toInt.toNat))) rl_ := lst_640 s1 hSz hrl_
          clear hrl_
          have hlr := lst_rng hlst
          refine lv_istore (lv' := [(6, .int rl_), (0, .ref (ad 0)), (2, .int (nI ((ap a1).toInt.toNat))), (3, .int (nI ((as_ a1).toInt.toNat))), (4, .int (ay a1)), (5, .int b)]) hx hb dX10_factsAgainst_163 hl (by decide) rfl (fun ls hl => ?_)
          refine lv_iload hx hb dX10_factsAgainst_165 (lv_at hl 0 rfl) ?_
          refine lv_iconst (v := (-1)) hx hb dX10_factsAgainst_167 (by decide) ?_
          have L_196 : ∀ (b : Int32), (b = fl ((di ((ap a1).toInt.toNat)).toInt = -1 ∨ (ay a1).toInt - (di ((ap a1).toInt.toNat)).toInt < (tl 0).toInt) 1 ||| fl ((((fb_ct (lvB (liv qp qt qm qf ql qx mk (fun t9 m9 y9 => sOnly nb fr tt st nu sn ((as_ a1).toInt.toNat) t9 m9 y9) qn ((ap a1).toInt.toNat))) 601 : Nat)) : Int) < (tl 1).toInt) 2 ||| fl ((((fb_ct (fun j9 => pB (src qp qs qt qm qf ql qx mk (fun t9 m9 y9 => sOnly nb fr tt st nu sn ((as_ a1).toInt.toNat) t9 m9 y9) qn ((ap a1).toInt.toNat) j9)) 6 : Nat)) : Int) < (tl 2).toInt) 4 ||| fl (¬ sNumTo fr tt nu ((as_ a1).toInt.toNat * 8) ((as_ a1).toInt.toNat * 8 + kn nb ((as_ a1).toInt.toNat)) ((as_ a1).toInt.toNat * 8 + kn nb ((as_ a1).toInt.toNat)) (ay a1).toInt) 8 ||| fl (∀ r9, lstIs (lvB (liv qp qt qm qf ql qx mk (fun t9 m9 y9 => sOnly nb fr tt st nu sn ((as_ a1).toInt.toNat) t9 m9 y9) qn ((ap a1).toInt.toNat))) r9 → r9.toInt = -1 ∨ (tl 3).toInt < (ay a1).toInt - r9.toInt) 128) → ∀ (H : Heap) (locs : List Loc), va_P (dC, dI) vwCl [(ad 0, .inr (10, [.ref (ad 1), .ref (ad 3), .ref (ad 9), .ref (ad 14), .ref (ad 22), .ref (ad 25), .ref (ad 27), .ref (ad 30), .ref (ad 41), .ref (ad 43)])), (ad 22, .inr (7, [.ref (ad 3), .ref (ad 9), .ref (ad 14), .ref (ad 23), .ref (ad 24), .int sb2_1])), (ad 23, .inl (cy 1, 10, .inr (.inl su2_2))), (ad 24, .inl (cy 1, 10, .inr (.inl my2_3))), (ad 9, .inr (3, [.ref (ad 10), .ref (ad 11), .ref (ad 12), .ref (ad 13), .int (nI pn)])), (ad 13, .inl (cy 0, 30, .inl mk)), (ad 14, .inr (2, [.ref (ad 15), .ref (ad 16), .ref (ad 17), .ref (ad 18), .ref (ad 19), .ref (ad 20), .ref (ad 21), .int (nI qn)])), (ad 15, .inl (cy 0, 100, .inl qp)), (ad 16, .inl (cy 0, 100, .inl qs)), (ad 17, .inl (cy 0, 100, .inl qt)), (ad 18, .inl (cy 0, 100, .inl qm)), (ad 19, .inl (cy 0, 100, .inl qf)), (ad 20, .inl (cy 0, 100, .inl ql)), (ad 21, .inl (cy 2, 100, .inl qx)), (ad 3, .inr (6, [.ref (ad 4), .ref (ad 5), .ref (ad 6), .ref (ad 7), .ref (ad 8), .int (nI sn)])), (ad 4, .inl (cy 0, 40, .inl nb)), (ad 5, .inl (cy 0, 320, .inl fr)), (ad 6, .inl (cy 0, 320, .inl tt)), (ad 7, .inl (cy 0, 320, .inl st)), (ad 8, .inl (cy 0, 320, .inl nu)), (ad 11, .inl (cy 0, 30, .inl di)), (ad 25, .inr (4, [.ref (ad 26)])), (ad 26, .inl (cy 0, 18, .inl tl)), (ad 30, .inr (0, [.ref (ad 31), .ref (ad 32), .ref (ad 33), .ref (ad 34), .ref (ad 35), .ref (ad 36), .ref (ad 37), .ref (ad 38), .ref (ad 39), .ref (ad 40), .int (nI an)])), (ad 31, .inl (cy 0, 40, .inl ap)), (ad 32, .inl (cy 0, 40, .inl as_)), (ad 33, .inl (cy 0, 40, .inl ay))] H → va_D A [(ad 0, .inr (10, [.ref (ad 1), .ref (ad 3), .ref (ad 9), .ref (ad 14), .ref (ad 22), .ref (ad 25), .ref (ad 27), .ref (ad 30), .ref (ad 41), .ref (ad 43)])), (ad 22, .inr (7, [.ref (ad 3), .ref (ad 9), .ref (ad 14), .ref (ad 23), .ref (ad 24), .int sb2_1])), (ad 23, .inl (cy 1, 10, .inr (.inl su2_2))), (ad 24, .inl (cy 1, 10, .inr (.inl my2_3))), (ad 9, .inr (3, [.ref (ad 10), .ref (ad 11), .ref (ad 12), .ref (ad 13), .int (nI pn)])), (ad 13, .inl (cy 0, 30, .inl mk)), (ad 14, .inr (2, [.ref (ad 15), .ref (ad 16), .ref (ad 17), .ref (ad 18), .ref (ad 19), .ref (ad 20), .ref (ad 21), .int (nI qn)])), (ad 15, .inl (cy 0, 100, .inl qp)), (ad 16, .inl (cy 0, 100, .inl qs)), (ad 17, .inl (cy 0, 100, .inl qt)), (ad 18, .inl (cy 0, 100, .inl qm)), (ad 19, .inl (cy 0, 100, .inl qf)), (ad 20, .inl (cy 0, 100, .inl ql)), (ad 21, .inl (cy 2, 100, .inl qx)), (ad 3, .inr (6, [.ref (ad 4), .ref (ad 5), .ref (ad 6), .ref (ad 7), .ref (ad 8), .int (nI sn)])), (ad 4, .inl (cy 0, 40, .inl nb)), (ad 5, .inl (cy 0, 320, .inl fr)), (ad 6, .inl (cy 0, 320, .inl tt)), (ad 7, .inl (cy 0, 320, .inl st)), (ad 8, .inl (cy 0, 320, .inl nu)), (ad 11, .inl (cy 0, 30, .inl di)), (ad 25, .inr (4, [.ref (ad 26)])), (ad 26, .inl (cy 0, 18, .inl tl)), (ad 30, .inr (0, [.ref (ad 31), .ref (ad 32), .ref (ad 33), .ref (ad 34), .ref (ad 35), .ref (ad 36), .ref (ad 37), .ref (ad 38), .ref (ad 39), .ref (ad 40), .int (nI an)])), (ad 31, .inl (cy 0, 40, .inl ap)), (ad 32, .inl (cy 0, 40, .inl as_)), (ad 33, .inl (cy 0, 40, .inl ay))] → va_S A ss.heap H locs → ∀ (ls : Array Slot), lv_has ls 7 [(0, .ref (ad 0)), (2, .int (nI ((ap a1).toInt.toNat))), (3, .int (nI ((as_ a1).toInt.toNat))), (4, .int (ay a1)), (5, .int b)] → W pp l ee { frames := 5, cells := 0, slots := 0, locals := 136 } ss mm (List.toArray [Value.ref (ad 0), Value.int (nI a1)]) below meth cc0 H locs 0 0 Q (F0 mm 196 ls []) := by
            intro b hbb
            intro H locs hP hD hS
            intro ls hl
            refine lv_iload hx hb dX10_factsAgainst_196 (lv_at hl 4 rfl) ?_
            refine bw_Qe hQ ?_
            have hP9 : va_P (dC, dI) vwCl [(ad 0, .inr (10, [.ref (ad 1), .ref (ad 3), .ref (ad 9), .ref (ad 14), .ref (ad 22), .ref (ad 25), .ref (ad 27), .ref (ad 30), .ref (ad 41), .ref (ad 43)])), (ad 22, .inr (7, [.ref (ad 3), .ref (ad 9), .ref (ad 14), .ref (ad 23), .ref (ad 24), .int sb2_1])), (ad 23, .inl (cy 1, 10, .inr (.inl su2_2))), (ad 24, .inl (cy 1, 10, .inr (.inl my2_3))), (ad 9, .inr (3, [.ref (ad 10), .ref (ad 11), .ref (ad 12), .ref (ad 13), .int (nI pn)])), (ad 13, .inl (cy 0, 30, .inl mk)), (ad 14, .inr (2, [.ref (ad 15), .ref (ad 16), .ref (ad 17), .ref (ad 18), .ref (ad 19), .ref (ad 20), .ref (ad 21), .int (nI qn)])), (ad 15, .inl (cy 0, 100, .inl qp)), (ad 16, .inl (cy 0, 100, .inl qs)), (ad 17, .inl (cy 0, 100, .inl qt)), (ad 18, .inl (cy 0, 100, .inl qm)), (ad 19, .inl (cy 0, 100, .inl qf)), (ad 20, .inl (cy 0, 100, .inl ql)), (ad 21, .inl (cy 2, 100, .inl qx)), (ad 3, .inr (6, [.ref (ad 4), .ref (ad 5), .ref (ad 6), .ref (ad 7), .ref (ad 8), .int (nI sn)])), (ad 4, .inl (cy 0, 40, .inl nb)), (ad 5, .inl (cy 0, 320, .inl fr)), (ad 6, .inl (cy 0, 320, .inl tt)), (ad 7, .inl (cy 0, 320, .inl st)), (ad 8, .inl (cy 0, 320, .inl nu)), (ad 11, .inl (cy 0, 30, .inl di)), (ad 25, .inr (4, [.ref (ad 26)])), (ad 26, .inl (cy 0, 18, .inl tl)), (ad 30, .inr (0, [.ref (ad 31), .ref (ad 32), .ref (ad 33), .ref (ad 34), .ref (ad 35), .ref (ad 36), .ref (ad 37), .ref (ad 38), .ref (ad 39), .ref (ad 40), .int (nI an)])), (ad 31, .inl (cy 0, 40, .inl ap)), (ad 32, .inl (cy 0, 40, .inl as_)), (ad 33, .inl (cy 0, 40, .inl ay))] H := hP.sub [0, 1, 2, 3, 4, 5, 6, 7, 8, 9, 10, 11, 12, 13, 14, 15, 16, 17, 18, 19, 20, 21, 22, 23, 24, 25, 26] rfl
            have hD9 : va_D A [(ad 0, .inr (10, [.ref (ad 1), .ref (ad 3), .ref (ad 9), .ref (ad 14), .ref (ad 22), .ref (ad 25), .ref (ad 27), .ref (ad 30), .ref (ad 41), .ref (ad 43)])), (ad 22, .inr (7, [.ref (ad 3), .ref (ad 9), .ref (ad 14), .ref (ad 23), .ref (ad 24), .int sb2_1])), (ad 23, .inl (cy 1, 10, .inr (.inl su2_2))), (ad 24, .inl (cy 1, 10, .inr (.inl my2_3))), (ad 9, .inr (3, [.ref (ad 10), .ref (ad 11), .ref (ad 12), .ref (ad 13), .int (nI pn)])), (ad 13, .inl (cy 0, 30, .inl mk)), (ad 14, .inr (2, [.ref (ad 15), .ref (ad 16), .ref (ad 17), .ref (ad 18), .ref (ad 19), .ref (ad 20), .ref (ad 21), .int (nI qn)])), (ad 15, .inl (cy 0, 100, .inl qp)), (ad 16, .inl (cy 0, 100, .inl qs)), (ad 17, .inl (cy 0, 100, .inl qt)), (ad 18, .inl (cy 0, 100, .inl qm)), (ad 19, .inl (cy 0, 100, .inl qf)), (ad 20, .inl (cy 0, 100, .inl ql)), (ad 21, .inl (cy 2, 100, .inl qx)), (ad 3, .inr (6, [.ref (ad 4), .ref (ad 5), .ref (ad 6), .ref (ad 7), .ref (ad 8), .int (nI sn)])), (ad 4, .inl (cy 0, 40, .inl nb)), (ad 5, .inl (cy 0, 320, .inl fr)), (ad 6, .inl (cy 0, 320, .inl tt)), (ad 7, .inl (cy 0, 320, .inl st)), (ad 8, .inl (cy 0, 320, .inl nu)), (ad 11, .inl (cy 0, 30, .inl di)), (ad 25, .inr (4, [.ref (ad 26)])), (ad 26, .inl (cy 0, 18, .inl tl)), (ad 30, .inr (0, [.ref (ad 31), .ref (ad 32), .ref (ad 33), .ref (ad 34), .ref (ad 35), .ref (ad 36), .ref (ad 37), .ref (ad 38), .ref (ad 39), .ref (ad 40), .int (nI an)])), (ad 31, .inl (cy 0, 40, .inl ap)), (ad 32, .inl (cy 0, 40, .inl as_)), (ad 33, .inl (cy 0, 40, .inl ay))] := hD.sub [0, 1, 2, 3, 4, 5, 6, 7, 8, 9, 10, 11, 12, 13, 14, 15, 16, 17, 18, 19, 20, 21, 22, 23, 24, 25, 26] (by decide) rfl
            have hpost : (b : Int32) = facts nb fr tt st nu sn qp qs qt qm qf ql qx mk qn di tl ap as_ ay a1 := by
              unfold facts fA
              exact hbb
            exact W.iret (v := b) hx hb hr (fun t9 ht hW => ⟨⟨b, (sb2_1, su2_2, my2_3), rfl, hpost, by rw [ht]; exact hP9, va_K.moved hW.alike hK, hD9⟩, hS.F ht⟩) hS.2.2 dX10_factsAgainst_198
          refine bw_icmp_eq (tgt := 188) (a := rl_.toInt) (b := (-1)) hx hb dX10_factsAgainst_168 (by decide) rfl rfl (fun c_7 => ?_) (fun c_7 => ?_)
          · skip
            refine lv_iload hx hb dX10_factsAgainst_188 (lv_at hl 5 rfl) ?_
            refine lv_sipush (v := 128) hx hb dX10_factsAgainst_190 (by decide) ?_
            refine lv_ior hx hb dX10_factsAgainst_193 ?_
            refine lv_topi (fun zb ezb => ?_)
            refine lv_istore (lv' := [(5, .int zb), (6, .int rl_), (0, .ref (ad 0)), (2, .int (nI ((ap a1).toInt.toNat))), (3, .int (nI ((as_ a1).toInt.toNat))), (4, .int (ay a1))]) hx hb dX10_factsAgainst_194 hl (by decide) rfl (fun ls hl => ?_)
            have hI_hbb : zb = fl ((di ((ap a1).toInt.toNat)).toInt = -1 ∨ (ay a1).toInt - (di ((ap a1).toInt.toNat)).toInt < (tl 0).toInt) 1 ||| fl ((((fb_ct (lvB (liv qp qt qm qf ql qx mk (fun t9 m9 y9 => sOnly nb fr tt st nu sn ((as_ a1).toInt.toNat) t9 m9 y9) qn ((ap a1).toInt.toNat))) 601 : Nat)) : Int) < (tl 1).toInt) 2 ||| fl ((((fb_ct (fun j9 => pB (src qp qs qt qm qf ql qx mk (fun t9 m9 y9 => sOnly nb fr tt st nu sn ((as_ a1).toInt.toNat) t9 m9 y9) qn ((ap a1).toInt.toNat) j9)) 6 : Nat)) : Int) < (tl 2).toInt) 4 ||| fl (¬ sNumTo fr tt nu ((as_ a1).toInt.toNat * 8) ((as_ a1).toInt.toNat * 8 + kn nb ((as_ a1).toInt.toNat)) ((as_ a1).toInt.toNat * 8 + kn nb ((as_ a1).toInt.toNat)) (ay a1).toInt) 8 ||| fl (∀ r9, lstIs (lvB (liv qp qt qm qf ql qx mk (fun t9 m9 y9 => sOnly nb fr tt st nu sn ((as_ a1).toInt.toNat) t9 m9 y9) qn ((ap a1).toInt.toNat))) r9 → r9.toInt = -1 ∨ (tl 3).toInt < (ay a1).toInt - r9.toInt) 128 := by
              first
                | (rw [ezb, hbb, fl_t (k := 128) ((far_iff hlst).mpr (by omega))])
                | (rw [hbb, fl_f (k := 128) (fun q => absurd ((far_iff hlst).mp q) (by omega)), Int32.or_zero])
            exact L_196 zb hI_hbb H locs hP hD hS ls (lv_sub hl [2, 3, 4, 5, 0] rfl)
          · skip
            refine lv_iload hx hb dX10_factsAgainst_171 (lv_at hl 4 rfl) ?_
            refine lv_iload hx hb dX10_factsAgainst_173 (lv_at hl 0 rfl) ?_
            refine lv_isub hx hb dX10_factsAgainst_175 ?_
            refine bw_nm (a := ((ay a1).toInt - rl_.toInt)) (tI_sub rfl rfl (by omega) (by omega)) (fun z_8 ez_8 tz_8 => ?_)
            refine lv_aload_n hx hb dX10_factsAgainst_176 rfl (lv_at hl 1 rfl) ?_
            refine va_get (D := (dC, dI)) (ci := 10) (v := .ref (ad 25)) (C := RX10) (T := TX10) (N := 10) hx hb hts hiX10 hown hK hP 0 rfl rfl 5 (by decide) hL7 (fun _ h9 => h9) rfl dX10_factsAgainst_177 ?_
            refine va_get (D := (dC, dI)) (ci := 4) (v := .ref (ad 26)) (C := RX4) (T := TX4) (N := 1) hx hb hts hiX4 hown hK hP 21 rfl rfl 0 (by decide) hL8 (fun _ h9 => h9) rfl dX10_factsAgainst_180 ?_
            refine lv_iconst (v := 3) hx hb dX10_factsAgainst_183 (by decide) ?_
            refine bw_iald hx hb hK hP 22 0 rfl rfl (j := 3) rfl (by omega) dX10_factsAgainst_184 ?_
            refine bw_icmp_le (tgt := 196) (a := ((ay a1).toInt - rl_.toInt)) (b := (tl 3).toInt) hx hb dX10_factsAgainst_185 (by decide) tz_8 rfl (fun c_9 => ?_) (fun c_9 => ?_)
            · skip
              have hI_hbb : b = fl ((di ((ap a1).toInt.toNat)).toInt = -1 ∨ (ay a1).toInt - (di ((ap a1).toInt.toNat)).toInt < (tl 0).toInt) 1 ||| fl ((((fb_ct (lvB (liv qp qt qm qf ql qx mk (fun t9 m9 y9 => sOnly nb fr tt st nu sn ((as_ a1).toInt.toNat) t9 m9 y9) qn ((ap a1).toInt.toNat))) 601 : Nat)) : Int) < (tl 1).toInt) 2 ||| fl ((((fb_ct (fun j9 => pB (src qp qs qt qm qf ql qx mk (fun t9 m9 y9 => sOnly nb fr tt st nu sn ((as_ a1).toInt.toNat) t9 m9 y9) qn ((ap a1).toInt.toNat) j9)) 6 : Nat)) : Int) < (tl 2).toInt) 4 ||| fl (¬ sNumTo fr tt nu ((as_ a1).toInt.toNat * 8) ((as_ a1).toInt.toNat * 8 + kn nb ((as_ a1).toInt.toNat)) ((as_ a1).toInt.toNat * 8 + kn nb ((as_ a1).toInt.toNat)) (ay a1).toInt) 8 ||| fl (∀ r9, lstIs (lvB (liv qp qt qm qf ql qx mk (fun t9 m9 y9 => sOnly nb fr tt st nu sn ((as_ a1).toInt.toNat) t9 m9 y9) qn ((ap a1).toInt.toNat))) r9 → r9.toInt = -1 ∨ (tl 3).toInt < (ay a1).toInt - r9.toInt) 128 := by
                first
                  | (rw [ezb, hbb, fl_t (k := 128) ((far_iff hlst).mpr (by omega))])
                  | (rw [hbb, fl_f (k := 128) (fun q => absurd ((far_iff hlst).mp q) (by omega)), Int32.or_zero])
              exact L_196 b hI_hbb H locs hP hD hS ls (lv_sub hl [1, 2, 3, 4, 5] rfl)
            · skip
              refine lv_iload hx hb dX10_factsAgainst_188 (lv_at hl 5 rfl) ?_
              refine lv_sipush (v := 128) hx hb dX10_factsAgainst_190 (by decide) ?_
              refine lv_ior hx hb dX10_factsAgainst_193 ?_
              refine lv_topi (fun zb ezb => ?_)
              refine lv_istore (lv' := [(5, .int zb), (6, .int rl_), (0, .ref (ad 0)), (2, .int (nI ((ap a1).toInt.toNat))), (3, .int (nI ((as_ a1).toInt.toNat))), (4, .int (ay a1))]) hx hb dX10_factsAgainst_194 hl (by decide) rfl (fun ls hl => ?_)
              have hI_hbb : zb = fl ((di ((ap a1).toInt.toNat)).toInt = -1 ∨ (ay a1).toInt - (di ((ap a1).toInt.toNat)).toInt < (tl 0).toInt) 1 ||| fl ((((fb_ct (lvB (liv qp qt qm qf ql qx mk (fun t9 m9 y9 => sOnly nb fr tt st nu sn ((as_ a1).toInt.toNat) t9 m9 y9) qn ((ap a1).toInt.toNat))) 601 : Nat)) : Int) < (tl 1).toInt) 2 ||| fl ((((fb_ct (fun j9 => pB (src qp qs qt qm qf ql qx mk (fun t9 m9 y9 => sOnly nb fr tt st nu sn ((as_ a1).toInt.toNat) t9 m9 y9) qn ((ap a1).toInt.toNat) j9)) 6 : Nat)) : Int) < (tl 2).toInt) 4 ||| fl (¬ sNumTo fr tt nu ((as_ a1).toInt.toNat * 8) ((as_ a1).toInt.toNat * 8 + kn nb ((as_ a1).toInt.toNat)) ((as_ a1).toInt.toNat * 8 + kn nb ((as_ a1).toInt.toNat)) (ay a1).toInt) 8 ||| fl (∀ r9, lstIs (lvB (liv qp qt qm qf ql qx mk (fun t9 m9 y9 => sOnly nb fr tt st nu sn ((as_ a1).toInt.toNat) t9 m9 y9) qn ((ap a1).toInt.toNat))) r9 → r9.toInt = -1 ∨ (tl 3).toInt < (ay a1).toInt - r9.toInt) 128 := by
                first
                  | (rw [ezb, hbb, fl_t (k := 128) ((far_iff hlst).mpr (by omega))])
                  | (rw [hbb, fl_f (k := 128) (fun q => absurd ((far_iff hlst).mp q) (by omega)), Int32.or_zero])
              exact L_196 zb hI_hbb H locs hP hD hS ls (lv_sub hl [2, 3, 4, 5, 0] rfl)
        refine bw_ifneP (tgt := 156) hx hb dX10_factsAgainst_146 (by decide) hr_6 (fun c_n => ?_) (fun c_n => ?_)
        · skip
          have hI_hbb : b = fl ((di ((ap a1).toInt.toNat)).toInt = -1 ∨ (ay a1).toInt - (di ((ap a1).toInt.toNat)).toInt < (tl 0).toInt) 1 ||| fl ((((fb_ct (lvB (liv qp qt qm qf ql qx mk (fun t9 m9 y9 => sOnly nb fr tt st nu sn ((as_ a1).toInt.toNat) t9 m9 y9) qn ((ap a1).toInt.toNat))) 601 : Nat)) : Int) < (tl 1).toInt) 2 ||| fl ((((fb_ct (fun j9 => pB (src qp qs qt qm qf ql qx mk (fun t9 m9 y9 => sOnly nb fr tt st nu sn ((as_ a1).toInt.toNat) t9 m9 y9) qn ((ap a1).toInt.toNat) j9)) 6 : Nat)) : Int) < (tl 2).toInt) 4 ||| fl (¬ sNumTo fr tt nu ((as_ a1).toInt.toNat * 8) ((as_ a1).toInt.toNat * 8 + kn nb ((as_ a1).toInt.toNat)) ((as_ a1).toInt.toNat * 8 + kn nb ((as_ a1).toInt.toNat)) (ay a1).toInt) 8 := by
            first
              | (rw [ezb, hbb, fl_t (k := 8) (by rw [hkn]; exact c_n)])
              | (rw [hbb, fl_f (k := 8) (by rw [hkn]; exact fun q => q c_n), Int32.or_zero])
          exact L_156 b hI_hbb H locs hP hD hS ls (lv_sub hl [0, 1, 2, 3, 4] rfl)
        · skip
          refine lv_iload hx hb dX10_factsAgainst_149 (lv_at hl 4 rfl) ?_
          refine lv_bipush (v := 8) hx hb dX10_factsAgainst_151 (by decide) ?_
          refine lv_ior hx hb dX10_factsAgainst_153 ?_
          refine lv_topi (fun zb ezb => ?_)
          refine lv_istore (lv' := [(5, .int zb), (0, .ref (ad 0)), (2, .int (nI ((ap a1).toInt.toNat))), (3, .int (nI ((as_ a1).toInt.toNat))), (4, .int (ay a1))]) hx hb dX10_factsAgainst_154 hl (by decide) rfl (fun ls hl => ?_)
          have hI_hbb : zb = fl ((di ((ap a1).toInt.toNat)).toInt = -1 ∨ (ay a1).toInt - (di ((ap a1).toInt.toNat)).toInt < (tl 0).toInt) 1 ||| fl ((((fb_ct (lvB (liv qp qt qm qf ql qx mk (fun t9 m9 y9 => sOnly nb fr tt st nu sn ((as_ a1).toInt.toNat) t9 m9 y9) qn ((ap a1).toInt.toNat))) 601 : Nat)) : Int) < (tl 1).toInt) 2 ||| fl ((((fb_ct (fun j9 => pB (src qp qs qt qm qf ql qx mk (fun t9 m9 y9 => sOnly nb fr tt st nu sn ((as_ a1).toInt.toNat) t9 m9 y9) qn ((ap a1).toInt.toNat) j9)) 6 : Nat)) : Int) < (tl 2).toInt) 4 ||| fl (¬ sNumTo fr tt nu ((as_ a1).toInt.toNat * 8) ((as_ a1).toInt.toNat * 8 + kn nb ((as_ a1).toInt.toNat)) ((as_ a1).toInt.toNat * 8 + kn nb ((as_ a1).toInt.toNat)) (ay a1).toInt) 8 := by
            first
              | (rw [ezb, hbb, fl_t (k := 8) (by rw [hkn]; exact c_n)])
              | (rw [hbb, fl_f (k := 8) (by rw [hkn]; exact fun q => q c_n), Int32.or_zero])
          exact L_156 zb hI_hbb H locs hP hD hS ls (lv_sub hl [1, 2, 3, 4, 0] rfl)
      refine bw_icmp_ge (tgt := 136) (a := ((fb_ct (fun j9 => pB (src qp qs qt qm qf ql qx mk (fun t9 m9 y9 => sOnly nb fr tt st nu sn ((as_ a1).toInt.toNat) t9 m9 y9) qn ((ap a1).toInt.toNat) j9)) 6 : Nat) : Int)) (b := (tl 2).toInt) hx hb dX10_factsAgainst_127 (by decide) (nI_toInt (by omega)) rfl (fun c_10 => ?_) (fun c_10 => ?_)
      · skip
        have hI_hbb : b = fl ((di ((ap a1).toInt.toNat)).toInt = -1 ∨ (ay a1).toInt - (di ((ap a1).toInt.toNat)).toInt < (tl 0).toInt) 1 ||| fl ((((fb_ct (lvB (liv qp qt qm qf ql qx mk (fun t9 m9 y9 => sOnly nb fr tt st nu sn ((as_ a1).toInt.toNat) t9 m9 y9) qn ((ap a1).toInt.toNat))) 601 : Nat)) : Int) < (tl 1).toInt) 2 ||| fl ((((fb_ct (fun j9 => pB (src qp qs qt qm qf ql qx mk (fun t9 m9 y9 => sOnly nb fr tt st nu sn ((as_ a1).toInt.toNat) t9 m9 y9) qn ((ap a1).toInt.toNat) j9)) 6 : Nat)) : Int) < (tl 2).toInt) 4 := by
          first
            | (rw [ezb, hbb, fl_t (k := 4) (by omega)])
            | (rw [hbb, fl_f (k := 4) (by omega), Int32.or_zero])
        exact L_136 b hI_hbb H locs hP hD hS ls (lv_sub hl [0, 1, 2, 3, 4] rfl)
      · skip
        refine lv_iload hx hb dX10_factsAgainst_130 (lv_at hl 4 rfl) ?_
        refine lv_iconst (v := 4) hx hb dX10_factsAgainst_132 (by decide) ?_
        refine lv_ior hx hb dX10_factsAgainst_133 ?_
        refine lv_topi (fun zb ezb => ?_)
        refine lv_istore (lv' := [(5, .int zb), (0, .ref (ad 0)), (2, .int (nI ((ap a1).toInt.toNat))), (3, .int (nI ((as_ a1).toInt.toNat))), (4, .int (ay a1))]) hx hb dX10_factsAgainst_134 hl (by decide) rfl (fun ls hl => ?_)
        have hI_hbb : zb = fl ((di ((ap a1).toInt.toNat)).toInt = -1 ∨ (ay a1).toInt - (di ((ap a1).toInt.toNat)).toInt < (tl 0).toInt) 1 ||| fl ((((fb_ct (lvB (liv qp qt qm qf ql qx mk (fun t9 m9 y9 => sOnly nb fr tt st nu sn ((as_ a1).toInt.toNat) t9 m9 y9) qn ((ap a1).toInt.toNat))) 601 : Nat)) : Int) < (tl 1).toInt) 2 ||| fl ((((fb_ct (fun j9 => pB (src qp qs qt qm qf ql qx mk (fun t9 m9 y9 => sOnly nb fr tt st nu sn ((as_ a1).toInt.toNat) t9 m9 y9) qn ((ap a1).toInt.toNat) j9)) 6 : Nat)) : Int) < (tl 2).toInt) 4 := by
          first
            | (rw [ezb, hbb, fl_t (k := 4) (by omega)])
            | (rw [hbb, fl_f (k := 4) (by omega), Int32.or_zero])
        exact L_136 zb hI_hbb H locs hP hD hS ls (lv_sub hl [1, 2, 3, 4, 0] rfl)
    refine bw_icmp_ge (tgt := 111) (a := ((fb_ct (lvB (liv qp qt qm qf ql qx mk (fun t9 m9 y9 => sOnly nb fr tt st nu sn ((as_ a1).toInt.toNat) t9 m9 y9) qn ((ap a1).toInt.toNat))) 601 : Nat) : Int)) (b := (tl 1).toInt) hx hb dX10_factsAgainst_102 (by decide) (nI_toInt (by omega)) rfl (fun c_11 => ?_) (fun c_11 => ?_)
    · skip
      have hI_hbb : b = fl ((di ((ap a1).toInt.toNat)).toInt = -1 ∨ (ay a1).toInt - (di ((ap a1).toInt.toNat)).toInt < (tl 0).toInt) 1 ||| fl ((((fb_ct (lvB (liv qp qt qm qf ql qx mk (fun t9 m9 y9 => sOnly nb fr tt st nu sn ((as_ a1).toInt.toNat) t9 m9 y9) qn ((ap a1).toInt.toNat))) 601 : Nat)) : Int) < (tl 1).toInt) 2 := by
        first
          | (rw [ezb, hbb, fl_t (k := 2) (by omega)])
          | (rw [hbb, fl_f (k := 2) (by omega), Int32.or_zero])
      exact L_111 b hI_hbb H locs hP hD hS ls (lv_sub hl [0, 1, 2, 3, 4] rfl)
    · skip
      refine lv_iload hx hb dX10_factsAgainst_105 (lv_at hl 4 rfl) ?_
      refine lv_iconst (v := 2) hx hb dX10_factsAgainst_107 (by decide) ?_
      refine lv_ior hx hb dX10_factsAgainst_108 ?_
      refine lv_topi (fun zb ezb => ?_)
      refine lv_istore (lv' := [(5, .int zb), (0, .ref (ad 0)), (2, .int (nI ((ap a1).toInt.toNat))), (3, .int (nI ((as_ a1).toInt.toNat))), (4, .int (ay a1))]) hx hb dX10_factsAgainst_109 hl (by decide) rfl (fun ls hl => ?_)
      have hI_hbb : zb = fl ((di ((ap a1).toInt.toNat)).toInt = -1 ∨ (ay a1).toInt - (di ((ap a1).toInt.toNat)).toInt < (tl 0).toInt) 1 ||| fl ((((fb_ct (lvB (liv qp qt qm qf ql qx mk (fun t9 m9 y9 => sOnly nb fr tt st nu sn ((as_ a1).toInt.toNat) t9 m9 y9) qn ((ap a1).toInt.toNat))) 601 : Nat)) : Int) < (tl 1).toInt) 2 := by
        first
          | (rw [ezb, hbb, fl_t (k := 2) (by omega)])
          | (rw [hbb, fl_f (k := 2) (by omega), Int32.or_zero])
      exact L_111 zb hI_hbb H locs hP hD hS ls (lv_sub hl [1, 2, 3, 4, 0] rfl)
  refine bw_icmp_eq (tgt := 80) (a := (di ((ap a1).toInt.toNat)).toInt) (b := (-1)) hx hb dX10_factsAgainst_53 (by decide) rfl rfl (fun c_12 => ?_) (fun c_12 => ?_)
  · skip
    refine lv_iload hx hb dX10_factsAgainst_80 (lv_at hl 0 rfl) ?_
    refine lv_iconst (v := 1) hx hb dX10_factsAgainst_82 (by decide) ?_
    refine lv_ior hx hb dX10_factsAgainst_83 ?_
    refine lv_topi (fun zb ezb => ?_)
    refine lv_istore (lv' := [(5, .int zb), (4, .int (ay a1)), (3, .int (nI ((as_ a1).toInt.toNat))), (2, .int (nI ((ap a1).toInt.toNat))), (0, .ref (ad 0)), (1, .int (nI a1))]) hx hb dX10_factsAgainst_84 hl (by decide) rfl (fun ls hl => ?_)
    have hI_hbb : zb = fl ((di ((ap a1).toInt.toNat)).toInt = -1 ∨ (ay a1).toInt - (di ((ap a1).toInt.toNat)).toInt < (tl 0).toInt) 1 := by
      first
        | (rw [ezb, fl_t (by omega)]; rfl)
        | (rw [fl_f (by omega)])
    exact L_86 zb hI_hbb H locs hP hD hS ls (lv_sub hl [4, 3, 2, 1, 0] rfl)
  · skip
    refine lv_iload hx hb dX10_factsAgainst_56 (lv_at hl 1 rfl) ?_
    refine lv_aload_n hx hb dX10_factsAgainst_58 rfl (lv_at hl 4 rfl) ?_
    refine va_get (D := (dC, dI)) (ci := 10) (v := .ref (ad 9)) (C := RX10) (T := TX10) (N := 10) hx hb hts hiX10 hown hK hP 0 rfl rfl 2 (by decide) hL5 (fun _ h9 => h9) rfl dX10_factsAgainst_59 ?_
    refine va_get (D := (dC, dI)) (ci := 3) (v := .ref (ad 11)) (C := RX3) (T := TX3) (N := 5) hx hb hts hiX3 hown hK hP 4 rfl rfl 1 (by decide) hL6 (fun _ h9 => h9) rfl dX10_factsAgainst_62 ?_
    refine lv_iload_n hx hb dX10_factsAgainst_65 rfl (lv_at hl 3 rfl) ?_
    refine bw_iald hx hb hK hP 20 0 rfl rfl (j := ((ap a1).toInt.toNat)) (nI_toInt (by omega)) (by omega) dX10_factsAgainst_66 ?_
    refine lv_isub hx hb dX10_factsAgainst_67 ?_
    refine bw_nm (a := ((ay a1).toInt - (di ((ap a1).toInt.toNat)).toInt)) (tI_sub rfl rfl (by omega) (by omega)) (fun z_13 ez_13 tz_13 => ?_)
    refine lv_aload_n hx hb dX10_factsAgainst_68 rfl (lv_at hl 4 rfl) ?_
    refine va_get (D := (dC, dI)) (ci := 10) (v := .ref (ad 25)) (C := RX10) (T := TX10) (N := 10) hx hb hts hiX10 hown hK hP 0 rfl rfl 5 (by decide) hL7 (fun _ h9 => h9) rfl dX10_factsAgainst_69 ?_
    refine va_get (D := (dC, dI)) (ci := 4) (v := .ref (ad 26)) (C := RX4) (T := TX4) (N := 1) hx hb hts hiX4 hown hK hP 21 rfl rfl 0 (by decide) hL8 (fun _ h9 => h9) rfl dX10_factsAgainst_72 ?_
    refine lv_iconst (v := 0) hx hb dX10_factsAgainst_75 (by decide) ?_
    refine bw_iald hx hb hK hP 22 0 rfl rfl (j := 0) rfl (by omega) dX10_factsAgainst_76 ?_
    refine bw_icmp_ge (tgt := 86) (a := ((ay a1).toInt - (di ((ap a1).toInt.toNat)).toInt)) (b := (tl 0).toInt) hx hb dX10_factsAgainst_77 (by decide) tz_13 rfl (fun c_14 => ?_) (fun c_14 => ?_)
    · skip
      have hI_hbb : 0 = fl ((di ((ap a1).toInt.toNat)).toInt = -1 ∨ (ay a1).toInt - (di ((ap a1).toInt.toNat)).toInt < (tl 0).toInt) 1 := by
        first
          | (rw [ezb, fl_t (by omega)]; rfl)
          | (rw [fl_f (by omega)])
      exact L_86 0 hI_hbb H locs hP hD hS ls (lv_sub hl [4, 3, 2, 1, 0] rfl)
    · skip
      refine lv_iload hx hb dX10_factsAgainst_80 (lv_at hl 0 rfl) ?_
      refine lv_iconst (v := 1) hx hb dX10_factsAgainst_82 (by decide) ?_
      refine lv_ior hx hb dX10_factsAgainst_83 ?_
      refine lv_topi (fun zb ezb => ?_)
      refine lv_istore (lv' := [(5, .int zb), (4, .int (ay a1)), (3, .int (nI ((as_ a1).toInt.toNat))), (2, .int (nI ((ap a1).toInt.toNat))), (0, .ref (ad 0)), (1, .int (nI a1))]) hx hb dX10_factsAgainst_84 hl (by decide) rfl (fun ls hl => ?_)
      have hI_hbb : zb = fl ((di ((ap a1).toInt.toNat)).toInt = -1 ∨ (ay a1).toInt - (di ((ap a1).toInt.toNat)).toInt < (tl 0).toInt) 1 := by
        first
          | (rw [ezb, fl_t (by omega)]; rfl)
          | (rw [fl_f (by omega)])
      exact L_86 zb hI_hbb H locs hP hD hS ls (lv_sub hl [4, 3, 2, 1, 0] rfl)

set_option maxHeartbeats 4000000 in
set_option maxRecDepth 100000 in
theorem c_X10_plaquesAgainst (l : Launch) (dC : Nat → ClassId) (dI : Nat → Nat → Nat) (cy : Nat → ClassId) (ad : Nat → Nat) (pn : Nat) (an : Nat) (ap : Nat → Int32) (as_ : Nat → Int32) (ast : Nat → Int32) (th : Nat → Int32) (mk : Nat → Int32) (tl : Nat → Int32) (a1 : Nat) (hpn : pn ≤ 30) (han : an ≤ 40) (ha1 : a1 < an) (hak : ∀ k, k < an → 0 ≤ (ap k).toInt ∧ (ap k).toInt < ((pn : Nat) : Int)) (hat : ∀ p, p < pn → 0 ≤ (th p).toInt ∧ (th p).toInt ≤ 7) : Met l yX10_plaquesAgainst wsX10_plaquesAgainst ({ frames := 1, cells := 0, slots := 0, locals := 22 }) (va_Pc [.ref (ad 0), .int (nI a1)] (fun U => va_P (dC, dI) vwCl [(ad 0, .inr (10, [.ref (ad 1), .ref (ad 3), .ref (ad 9), .ref (ad 14), .ref (ad 22), .ref (ad 25), .ref (ad 27), .ref (ad 30), .ref (ad 41), .ref (ad 43)])), (ad 30, .inr (0, [.ref (ad 31), .ref (ad 32), .ref (ad 33), .ref (ad 34), .ref (ad 35), .ref (ad 36), .ref (ad 37), .ref (ad 38), .ref (ad 39), .ref (ad 40), .int (nI an)])), (ad 31, .inl (cy 0, 40, .inl ap)), (ad 32, .inl (cy 0, 40, .inl as_)), (ad 34, .inl (cy 0, 40, .inl ast)), (ad 9, .inr (3, [.ref (ad 10), .ref (ad 11), .ref (ad 12), .ref (ad 13), .int (nI pn)])), (ad 12, .inl (cy 0, 30, .inl th)), (ad 13, .inl (cy 0, 30, .inl mk)), (ad 25, .inr (4, [.ref (ad 26)])), (ad 26, .inl (cy 0, 18, .inl tl))] U.heap ∧ va_K (dC, dI) vwCl (tyL cy) U)) (vp_Si (fun r => r = plaq tl ap as_ ast mk th an a1)) 0 0 (fun _ => False) := by
  refine Met.ofW (cc := cX10_plaquesAgainst) (maxL := 8) (ret := (some .int)) (by decide) rfl ?_
  intro pp ee ss mm args below meth cc0 s₁ B hml hv
  obtain ⟨rfl, hP, hK⟩ := hv
  have hx := B.exec
  have hb := B.bytes
  have hr := B.returns
  have hts := atoms_spec (ws := wsX10_plaquesAgainst) B.pre
  have hown : ss.vm.findClass RX10 = some mm.cls := findClass_of_methodNamed B.named
  have hlocks := B.notSynchronized
  have hL0 := hts (.fieldLink RX10 65 "HereLived" "askings" "LHereLived$Askings;") (by decide +kernel)
  have hL1 := hts (.fieldLink RX10 246 "HereLived$Askings" "ofPerson" "[I") (by decide +kernel)
  have hL2 := hts (.fieldLink RX10 26 "HereLived" "people" "LHereLived$People;") (by decide +kernel)
  have hL3 := hts (.fieldLink RX10 266 "HereLived$People" "theme" "[I") (by decide +kernel)
  have hL4 := hts (.fieldLink RX10 202 "HereLived$Askings" "size" "I") (by decide +kernel)
  have hL5 := hts (.fieldLink RX10 49 "HereLived" "book" "LHereLived$RuleBook;") (by decide +kernel)
  have hL6 := hts (.fieldLink RX10 196 "HereLived$RuleBook" "told" "[I") (by decide +kernel)
  have hL7 := hts (.fieldLink RX10 216 "HereLived$Askings" "state" "[I") (by decide +kernel)
  have hL8 := hts (.fieldLink RX10 249 "HereLived$Askings" "ofSite" "[I") (by decide +kernel)
  have hiX0 : ∀ w ∈ wsX00, w ∈ wsX10_plaquesAgainst := by decide +kernel
  have hiX10 : ∀ w ∈ wsX100, w ∈ wsX10_plaquesAgainst := by decide +kernel
  have hiX3 : ∀ w ∈ wsX30, w ∈ wsX10_plaquesAgainst := by decide +kernel
  have hiX4 : ∀ w ∈ wsX40, w ∈ wsX10_plaquesAgainst := by decide +kernel
  have hl := lv_entry ([.ref (ad 0), .int (nI a1)]) (n := 8) (Nat.le_of_ble_eq_true rfl)
  rw [lg_entry_eq]
  generalize (lg_sl ([.ref (ad 0), .int (nI a1)]) ++ List.replicate (8 - (lg_sl ([.ref (ad 0), .int (nI a1)])).length) Slot.unset).toArray = ls at hl ⊢
  have hl : lv_has ls 8 [(0, .ref (ad 0)), (1, .int (nI a1))] := hl
  refine bw_Q (fun Q hQ => ?_)
  change W pp l ee { frames := 1, cells := 0, slots := 0, locals := 22 } ss mm _ below meth cc0 ss.heap [] 0 0 Q (F0 mm 0 ls [])
  have hA1 := hak a1 ha1
  have hT1 := hat ((ap a1).toInt.toNat) (by omega)
  refine lv_aload_n hx hb dX10_plaquesAgainst_0 rfl (lv_at hl 0 rfl) ?_
  refine va_get (D := (dC, dI)) (ci := 10) (v := .ref (ad 30)) (C := RX10) (T := TX10) (N := 10) hx hb hts hiX10 hown hK hP 0 rfl rfl 7 (by decide) hL0 (fun _ h9 => h9) rfl dX10_plaquesAgainst_1 ?_
  refine va_get (D := (dC, dI)) (ci := 0) (v := .ref (ad 31)) (C := RX0) (T := TX0) (N := 11) hx hb hts hiX0 hown hK hP 1 rfl rfl 0 (by decide) hL1 (fun _ h9 => h9) rfl dX10_plaquesAgainst_4 ?_
  refine lv_iload_n hx hb dX10_plaquesAgainst_7 rfl (lv_at hl 1 rfl) ?_
  refine bw_iald hx hb hK hP 2 0 rfl rfl (j := a1) (nI_toInt (by omega)) (by omega) dX10_plaquesAgainst_8 ?_
  refine bw_re (show (ap a1) = nI ((ap a1).toInt.toNat) from nI_back (by omega)) ?_
  refine lv_istore_n (lv' := [(2, .int (nI ((ap a1).toInt.toNat))), (0, .ref (ad 0)), (1, .int (nI a1))]) hx hb dX10_plaquesAgainst_9 rfl hl (by decide) rfl (fun ls hl => ?_)
  refine lv_aload_n hx hb dX10_plaquesAgainst_10 rfl (lv_at hl 1 rfl) ?_
  refine va_get (D := (dC, dI)) (ci := 10) (v := .ref (ad 9)) (C := RX10) (T := TX10) (N := 10) hx hb hts hiX10 hown hK hP 0 rfl rfl 2 (by decide) hL2 (fun _ h9 => h9) rfl dX10_plaquesAgainst_11 ?_
  refine va_get (D := (dC, dI)) (ci := 3) (v := .ref (ad 12)) (C := RX3) (T := TX3) (N := 5) hx hb hts hiX3 hown hK hP 5 rfl rfl 2 (by decide) hL3 (fun _ h9 => h9) rfl dX10_plaquesAgainst_14 ?_
  refine lv_iload_n hx hb dX10_plaquesAgainst_17 rfl (lv_at hl 0 rfl) ?_
  refine bw_iald hx hb hK hP 6 0 rfl rfl (j := ((ap a1).toInt.toNat)) (nI_toInt (by omega)) (by omega) dX10_plaquesAgainst_18 ?_
  refine lv_istore_n (lv' := [(3, .int (th ((ap a1).toInt.toNat))), (2, .int (nI ((ap a1).toInt.toNat))), (0, .ref (ad 0)), (1, .int (nI a1))]) hx hb dX10_plaquesAgainst_19 rfl hl (by decide) rfl (fun ls hl => ?_)
  refine lv_iconst (v := 0) hx hb dX10_plaquesAgainst_20 (by decide) ?_
  refine lv_istore (lv' := [(4, .int 0), (3, .int (th ((ap a1).toInt.toNat))), (2, .int (nI ((ap a1).toInt.toNat))), (0, .ref (ad 0)), (1, .int (nI a1))]) hx hb dX10_plaquesAgainst_21 hl (by decide) rfl (fun ls hl => ?_)
  refine lv_iconst (v := 0) hx hb dX10_plaquesAgainst_23 (by decide) ?_
  refine lv_istore (lv' := [(5, .int 0), (4, .int 0), (3, .int (th ((ap a1).toInt.toNat))), (2, .int (nI ((ap a1).toInt.toNat))), (0, .ref (ad 0)), (1, .int (nI a1))]) hx hb dX10_plaquesAgainst_24 hl (by decide) rfl (fun ls hl => ?_)
  refine lv_iconst (v := 0) hx hb dX10_plaquesAgainst_26 (by decide) ?_
  refine lv_istore (lv' := [(6, .int 0), (5, .int 0), (4, .int 0), (3, .int (th ((ap a1).toInt.toNat))), (2, .int (nI ((ap a1).toInt.toNat))), (0, .ref (ad 0)), (1, .int (nI a1))]) hx hb dX10_plaquesAgainst_27 hl (by decide) rfl (fun ls hl => ?_)
  have L_29 : ∀ (n9 : Nat), ∀ (k : Nat) (n : Nat) (b : Int32), (an - k) < n9 → (k ≤ an) → (n = thC ap ast th (th ((ap a1).toInt.toNat)).toInt k) → (b = pq2 0 (tl 4).toInt ap as_ ast mk ((ap a1).toInt.toNat) (as_ a1).toInt (k) (k)) → ∀ (ls : Array Slot), lv_has ls 8 [(0, .ref (ad 0)), (1, .int (nI a1)), (2, .int (nI ((ap a1).toInt.toNat))), (3, .int (th ((ap a1).toInt.toNat))), (4, .int (nI n)), (5, .int b), (6, .int (nI k))] → W pp l ee { frames := 1, cells := 0, slots := 0, locals := 22 } ss mm (List.toArray [Value.ref (ad 0), Value.int (nI a1)]) below meth cc0 ss.heap [] 0 0 Q (F0 mm 29 ls []) := by
    intro n9
    induction n9 with
    | zero => intro k n b hm9; exact absurd hm9 (Nat.not_lt_zero _)
    | succ n9 ih29 =>
      intro k n b hm29 hk hn hbb
      intro ls hl
      have hle := thC_le ap ast th (th ((ap a1).toInt.toNat)).toInt k
      refine lv_iload hx hb dX10_plaquesAgainst_29 (lv_at hl 6 rfl) ?_
      refine lv_aload_n hx hb dX10_plaquesAgainst_31 rfl (lv_at hl 0 rfl) ?_
      refine va_get (D := (dC, dI)) (ci := 10) (v := .ref (ad 30)) (C := RX10) (T := TX10) (N := 10) hx hb hts hiX10 hown hK hP 0 rfl rfl 7 (by decide) hL0 (fun _ h9 => h9) rfl dX10_plaquesAgainst_32 ?_
      refine va_get (D := (dC, dI)) (ci := 0) (v := .int (nI an)) (C := RX0) (T := TX0) (N := 11) hx hb hts hiX0 hown hK hP 1 rfl rfl 10 (by decide) hL4 (fun _ h9 => h9) rfl dX10_plaquesAgainst_35 ?_
      refine bw_icmp_ge (tgt := 155) (a := ((k : Nat) : Int)) (b := ((an : Nat) : Int)) hx hb dX10_plaquesAgainst_38 (by decide) (nI_toInt (by omega)) (nI_toInt (by omega)) (fun c_1 => ?_) (fun c_1 => ?_)
      · skip
        have e8 : an = k := by omega
        refine lv_aload_n hx hb dX10_plaquesAgainst_155 rfl (lv_at hl 0 rfl) ?_
        refine va_get (D := (dC, dI)) (ci := 10) (v := .ref (ad 25)) (C := RX10) (T := TX10) (N := 10) hx hb hts hiX10 hown hK hP 0 rfl rfl 5 (by decide) hL5 (fun _ h9 => h9) rfl dX10_plaquesAgainst_156 ?_
        refine va_get (D := (dC, dI)) (ci := 4) (v := .ref (ad 26)) (C := RX4) (T := TX4) (N := 1) hx hb hts hiX4 hown hK hP 8 rfl rfl 0 (by decide) hL6 (fun _ h9 => h9) rfl dX10_plaquesAgainst_159 ?_
        refine lv_bipush (v := 10) hx hb dX10_plaquesAgainst_162 (by decide) ?_
        refine lv_iload_n hx hb dX10_plaquesAgainst_164 rfl (lv_at hl 3 rfl) ?_
        refine bw_re (show (th ((ap a1).toInt.toNat)) = nI ((th ((ap a1).toInt.toNat)).toInt.toNat) from nI_back (by omega)) ?_
        refine lv_iadd hx hb dX10_plaquesAgainst_165 ?_
        refine bw_re (show 10 + (nI ((th ((ap a1).toInt.toNat)).toInt.toNat)) = nI (10 + ((th ((ap a1).toInt.toNat)).toInt.toNat)) from nI_add (10) ((th ((ap a1).toInt.toNat)).toInt.toNat)) ?_
        refine bw_iald hx hb hK hP 9 0 rfl rfl (j := (10 + ((th ((ap a1).toInt.toNat)).toInt.toNat))) (nI_toInt (by omega)) (by omega) dX10_plaquesAgainst_166 ?_
        refine lv_istore (lv' := [(6, .int (tl (10 + ((th ((ap a1).toInt.toNat)).toInt.toNat)))), (0, .ref (ad 0)), (1, .int (nI a1)), (2, .int (nI ((ap a1).toInt.toNat))), (3, .int (th ((ap a1).toInt.toNat))), (4, .int (nI n)), (5, .int b)]) hx hb dX10_plaquesAgainst_167 hl (by decide) rfl (fun ls hl => ?_)
        refine lv_iload hx hb dX10_plaquesAgainst_169 (lv_at hl 0 rfl) ?_
        refine lv_iconst (v := (-1)) hx hb dX10_plaquesAgainst_171 (by decide) ?_
        have L_189 : ∀ (b1 : Int32), (b1 = plaq tl ap as_ ast mk th an a1) → ∀ (ls : Array Slot), lv_has ls 8 [(5, .int b1)] → W pp l ee { frames := 1, cells := 0, slots := 0, locals := 22 } ss mm (List.toArray [Value.ref (ad 0), Value.int (nI a1)]) below meth cc0 ss.heap [] 0 0 Q (F0 mm 189 ls []) := by
          intro b1 hb4
          intro ls hl
          refine lv_iload hx hb dX10_plaquesAgainst_189 (lv_at hl 0 rfl) ?_
          refine bw_Qe hQ ?_
          have hpost : b1 = plaq tl ap as_ ast mk th an a1 := by
            exact hb4
          exact W.iret (v := b1) hx hb hr (fun t9 ht hW => ⟨_, rfl, hpost, by rw [ht]⟩) (fun q h => by cases h) dX10_plaquesAgainst_191
        refine bw_icmp_eq (tgt := 189) (a := (tl (10 + ((th ((ap a1).toInt.toNat)).toInt.toNat))).toInt) (b := (-1)) hx hb dX10_plaquesAgainst_172 (by decide) rfl rfl (fun c_2 => ?_) (fun c_2 => ?_)
        · skip
          have hI_hb4 : b = plaq tl ap as_ ast mk th an a1 := by
            unfold plaq
            first
              | (rw [ezb, hbb, e8, fl_t (k := 64) (by omega)])
              | (rw [hbb, e8, fl_f (k := 64) (by omega), Int32.or_zero])
          exact L_189 b hI_hb4 ls (lv_sub hl [6] rfl)
        · skip
          refine lv_iload hx hb dX10_plaquesAgainst_175 (lv_at hl 5 rfl) ?_
          refine lv_iload hx hb dX10_plaquesAgainst_177 (lv_at hl 0 rfl) ?_
          refine bw_icmp_lt (tgt := 189) (a := ((n : Nat) : Int)) (b := (tl (10 + ((th ((ap a1).toInt.toNat)).toInt.toNat))).toInt) hx hb dX10_plaquesAgainst_179 (by decide) (nI_toInt (by omega)) rfl (fun c_3 => ?_) (fun c_3 => ?_)
          · skip
            have hI_hb4 : b = plaq tl ap as_ ast mk th an a1 := by
              unfold plaq
              first
                | (rw [ezb, hbb, e8, fl_t (k := 64) (by omega)])
                | (rw [hbb, e8, fl_f (k := 64) (by omega), Int32.or_zero])
            exact L_189 b hI_hb4 ls (lv_sub hl [6] rfl)
          · skip
            refine lv_iload hx hb dX10_plaquesAgainst_182 (lv_at hl 6 rfl) ?_
            refine lv_bipush (v := 64) hx hb dX10_plaquesAgainst_184 (by decide) ?_
            refine lv_ior hx hb dX10_plaquesAgainst_186 ?_
            refine lv_topi (fun zb ezb => ?_)
            refine lv_istore (lv' := [(5, .int zb), (6, .int (tl (10 + ((th ((ap a1).toInt.toNat)).toInt.toNat)))), (0, .ref (ad 0)), (1, .int (nI a1)), (2, .int (nI ((ap a1).toInt.toNat))), (3, .int (th ((ap a1).toInt.toNat))), (4, .int (nI n))]) hx hb dX10_plaquesAgainst_187 hl (by decide) rfl (fun ls hl => ?_)
            have hI_hb4 : zb = plaq tl ap as_ ast mk th an a1 := by
              unfold plaq
              first
                | (rw [ezb, hbb, e8, fl_t (k := 64) (by omega)])
                | (rw [hbb, e8, fl_f (k := 64) (by omega), Int32.or_zero])
            exact L_189 zb hI_hb4 ls (lv_sub hl [0] rfl)
      · skip
        refine lv_aload_n hx hb dX10_plaquesAgainst_41 rfl (lv_at hl 0 rfl) ?_
        refine va_get (D := (dC, dI)) (ci := 10) (v := .ref (ad 30)) (C := RX10) (T := TX10) (N := 10) hx hb hts hiX10 hown hK hP 0 rfl rfl 7 (by decide) hL0 (fun _ h9 => h9) rfl dX10_plaquesAgainst_42 ?_
        refine va_get (D := (dC, dI)) (ci := 0) (v := .ref (ad 34)) (C := RX0) (T := TX0) (N := 11) hx hb hts hiX0 hown hK hP 1 rfl rfl 3 (by decide) hL7 (fun _ h9 => h9) rfl dX10_plaquesAgainst_45 ?_
        refine lv_iload hx hb dX10_plaquesAgainst_48 (lv_at hl 6 rfl) ?_
        refine bw_iald hx hb hK hP 4 0 rfl rfl (j := k) (nI_toInt (by omega)) (by omega) dX10_plaquesAgainst_50 ?_
        refine lv_iconst (v := 3) hx hb dX10_plaquesAgainst_51 (by decide) ?_
        refine bw_icmp_eq (tgt := 58) (a := (ast k).toInt) (b := 3) hx hb dX10_plaquesAgainst_52 (by decide) rfl rfl (fun c_h => ?_) (fun c_h => ?_)
        · skip
          have hq1 := hak k (by omega)
          have hq2 := hat ((ap k).toInt.toNat) (by omega)
          refine lv_aload_n hx hb dX10_plaquesAgainst_58 rfl (lv_at hl 0 rfl) ?_
          refine va_get (D := (dC, dI)) (ci := 10) (v := .ref (ad 30)) (C := RX10) (T := TX10) (N := 10) hx hb hts hiX10 hown hK hP 0 rfl rfl 7 (by decide) hL0 (fun _ h9 => h9) rfl dX10_plaquesAgainst_59 ?_
          refine va_get (D := (dC, dI)) (ci := 0) (v := .ref (ad 31)) (C := RX0) (T := TX0) (N := 11) hx hb hts hiX0 hown hK hP 1 rfl rfl 0 (by decide) hL1 (fun _ h9 => h9) rfl dX10_plaquesAgainst_62 ?_
          refine lv_iload hx hb dX10_plaquesAgainst_65 (lv_at hl 6 rfl) ?_
          refine bw_iald hx hb hK hP 2 0 rfl rfl (j := k) (nI_toInt (by omega)) (by omega) dX10_plaquesAgainst_67 ?_
          refine bw_re (show (ap k) = nI ((ap k).toInt.toNat) from nI_back (by omega)) ?_
          refine lv_istore (lv' := [(7, .int (nI ((ap k).toInt.toNat))), (0, .ref (ad 0)), (1, .int (nI a1)), (2, .int (nI ((ap a1).toInt.toNat))), (3, .int (th ((ap a1).toInt.toNat))), (4, .int (nI n)), (5, .int b), (6, .int (nI k))]) hx hb dX10_plaquesAgainst_68 hl (by decide) rfl (fun ls hl => ?_)
          refine lv_aload_n hx hb dX10_plaquesAgainst_70 rfl (lv_at hl 1 rfl) ?_
          refine va_get (D := (dC, dI)) (ci := 10) (v := .ref (ad 25)) (C := RX10) (T := TX10) (N := 10) hx hb hts hiX10 hown hK hP 0 rfl rfl 5 (by decide) hL5 (fun _ h9 => h9) rfl dX10_plaquesAgainst_71 ?_
          refine va_get (D := (dC, dI)) (ci := 4) (v := .ref (ad 26)) (C := RX4) (T := TX4) (N := 1) hx hb hts hiX4 hown hK hP 8 rfl rfl 0 (by decide) hL6 (fun _ h9 => h9) rfl dX10_plaquesAgainst_74 ?_
          refine lv_iconst (v := 4) hx hb dX10_plaquesAgainst_77 (by decide) ?_
          refine bw_iald hx hb hK hP 9 0 rfl rfl (j := 4) rfl (by omega) dX10_plaquesAgainst_78 ?_
          refine lv_iconst (v := 1) hx hb dX10_plaquesAgainst_79 (by decide) ?_
          have L_103 : ∀ (b1 : Int32), (b1 = pq2 0 (tl 4).toInt ap as_ ast mk ((ap a1).toInt.toNat) (as_ a1).toInt (k + 1) (k)) → ∀ (ls : Array Slot), lv_has ls 8 [(0, .ref (ad 0)), (1, .int (nI a1)), (2, .int (nI ((ap a1).toInt.toNat))), (3, .int (th ((ap a1).toInt.toNat))), (4, .int (nI n)), (6, .int (nI k)), (7, .int (nI ((ap k).toInt.toNat))), (5, .int b1)] → W pp l ee { frames := 1, cells := 0, slots := 0, locals := 22 } ss mm (List.toArray [Value.ref (ad 0), Value.int (nI a1)]) below meth cc0 ss.heap [] 0 0 Q (F0 mm 103 ls []) := by
            intro b1 hb2
            intro ls hl
            refine lv_aload_n hx hb dX10_plaquesAgainst_103 rfl (lv_at hl 0 rfl) ?_
            refine va_get (D := (dC, dI)) (ci := 10) (v := .ref (ad 30)) (C := RX10) (T := TX10) (N := 10) hx hb hts hiX10 hown hK hP 0 rfl rfl 7 (by decide) hL0 (fun _ h9 => h9) rfl dX10_plaquesAgainst_104 ?_
            refine va_get (D := (dC, dI)) (ci := 0) (v := .ref (ad 32)) (C := RX0) (T := TX0) (N := 11) hx hb hts hiX0 hown hK hP 1 rfl rfl 1 (by decide) hL8 (fun _ h9 => h9) rfl dX10_plaquesAgainst_107 ?_
            refine lv_iload hx hb dX10_plaquesAgainst_110 (lv_at hl 5 rfl) ?_
            refine bw_iald hx hb hK hP 3 0 rfl rfl (j := k) (nI_toInt (by omega)) (by omega) dX10_plaquesAgainst_112 ?_
            refine lv_aload_n hx hb dX10_plaquesAgainst_113 rfl (lv_at hl 0 rfl) ?_
            refine va_get (D := (dC, dI)) (ci := 10) (v := .ref (ad 30)) (C := RX10) (T := TX10) (N := 10) hx hb hts hiX10 hown hK hP 0 rfl rfl 7 (by decide) hL0 (fun _ h9 => h9) rfl dX10_plaquesAgainst_114 ?_
            refine va_get (D := (dC, dI)) (ci := 0) (v := .ref (ad 32)) (C := RX0) (T := TX0) (N := 11) hx hb hts hiX0 hown hK hP 1 rfl rfl 1 (by decide) hL8 (fun _ h9 => h9) rfl dX10_plaquesAgainst_117 ?_
            refine lv_iload_n hx hb dX10_plaquesAgainst_120 rfl (lv_at hl 1 rfl) ?_
            refine bw_iald hx hb hK hP 3 0 rfl rfl (j := a1) (nI_toInt (by omega)) (by omega) dX10_plaquesAgainst_121 ?_
            have L_132 : ∀ (b1 : Int32), (b1 = pq2 0 (tl 4).toInt ap as_ ast mk ((ap a1).toInt.toNat) (as_ a1).toInt (k + 1) (k + 1)) → ∀ (ls : Array Slot), lv_has ls 8 [(0, .ref (ad 0)), (1, .int (nI a1)), (2, .int (nI ((ap a1).toInt.toNat))), (3, .int (th ((ap a1).toInt.toNat))), (4, .int (nI n)), (6, .int (nI k)), (7, .int (nI ((ap k).toInt.toNat))), (5, .int b1)] → W pp l ee { frames := 1, cells := 0, slots := 0, locals := 22 } ss mm (List.toArray [Value.ref (ad 0), Value.int (nI a1)]) below meth cc0 ss.heap [] 0 0 Q (F0 mm 132 ls []) := by
              intro b1 hb3
              intro ls hl
              refine lv_aload_n hx hb dX10_plaquesAgainst_132 rfl (lv_at hl 0 rfl) ?_
              refine va_get (D := (dC, dI)) (ci := 10) (v := .ref (ad 9)) (C := RX10) (T := TX10) (N := 10) hx hb hts hiX10 hown hK hP 0 rfl rfl 2 (by decide) hL2 (fun _ h9 => h9) rfl dX10_plaquesAgainst_133 ?_
              refine va_get (D := (dC, dI)) (ci := 3) (v := .ref (ad 12)) (C := RX3) (T := TX3) (N := 5) hx hb hts hiX3 hown hK hP 5 rfl rfl 2 (by decide) hL3 (fun _ h9 => h9) rfl dX10_plaquesAgainst_136 ?_
              refine lv_iload hx hb dX10_plaquesAgainst_139 (lv_at hl 6 rfl) ?_
              refine bw_iald hx hb hK hP 6 0 rfl rfl (j := ((ap k).toInt.toNat)) (nI_toInt (by omega)) (by omega) dX10_plaquesAgainst_141 ?_
              refine lv_iload_n hx hb dX10_plaquesAgainst_142 rfl (lv_at hl 3 rfl) ?_
              refine bw_icmp_ne (tgt := 149) (a := (th ((ap k).toInt.toNat)).toInt) (b := (th ((ap a1).toInt.toNat)).toInt) hx hb dX10_plaquesAgainst_143 (by decide) rfl rfl (fun c_4 => ?_) (fun c_4 => ?_)
              · skip
                refine lv_iinc (v := nI (k + 1)) (lv' := [(6, .int (nI (k + 1))), (0, .ref (ad 0)), (1, .int (nI a1)), (2, .int (nI ((ap a1).toInt.toNat))), (3, .int (th ((ap a1).toInt.toNat))), (4, .int (nI n)), (7, .int (nI ((ap k).toInt.toNat))), (5, .int b1)]) hx hb dX10_plaquesAgainst_149 hl (k := 5) rfl (show nI k + Int32.ofInt 1 = nI (k + 1) from nI_add k 1) (by decide) rfl (fun ls hl => ?_)
                refine lv_goto (tgt := 29) hx hb dX10_plaquesAgainst_152 (by decide) ?_
                have hI_hn : n = thC ap ast th (th ((ap a1).toInt.toNat)).toInt (k + 1) := by
                  rw [hn]
                  first
                    | exact thC_y c_h (by omega)
                    | exact thC_n (fun q => absurd q.1 c_h)
                    | exact thC_n (fun q => absurd q.2 (by omega))
                have hI_hbb : b1 = pq2 0 (tl 4).toInt ap as_ ast mk ((ap a1).toInt.toNat) (as_ a1).toInt ((k + 1)) ((k + 1)) := by
                  first
                    | exact hb3
                    | (rw [hbb]; exact (pq2_b (fun q => absurd q.2.1 c_h)).trans (pq2_d (fun q => absurd q.1 c_h)))
                exact ih29 (k + 1) n b1 (by omega) (by first | assumption | omega) hI_hn hI_hbb ls (lv_sub hl [1, 2, 3, 4, 5, 7, 0] rfl)
              · skip
                refine lv_iinc (v := nI (n + 1)) (lv' := [(4, .int (nI (n + 1))), (0, .ref (ad 0)), (1, .int (nI a1)), (2, .int (nI ((ap a1).toInt.toNat))), (3, .int (th ((ap a1).toInt.toNat))), (6, .int (nI k)), (7, .int (nI ((ap k).toInt.toNat))), (5, .int b1)]) hx hb dX10_plaquesAgainst_146 hl (k := 4) rfl (show nI n + Int32.ofInt 1 = nI (n + 1) from nI_add n 1) (by decide) rfl (fun ls hl => ?_)
                refine lv_iinc (v := nI (k + 1)) (lv' := [(6, .int (nI (k + 1))), (4, .int (nI (n + 1))), (0, .ref (ad 0)), (1, .int (nI a1)), (2, .int (nI ((ap a1).toInt.toNat))), (3, .int (th ((ap a1).toInt.toNat))), (7, .int (nI ((ap k).toInt.toNat))), (5, .int b1)]) hx hb dX10_plaquesAgainst_149 hl (k := 5) rfl (show nI k + Int32.ofInt 1 = nI (k + 1) from nI_add k 1) (by decide) rfl (fun ls hl => ?_)
                refine lv_goto (tgt := 29) hx hb dX10_plaquesAgainst_152 (by decide) ?_
                have hI_hn : (n + 1) = thC ap ast th (th ((ap a1).toInt.toNat)).toInt (k + 1) := by
                  rw [hn]
                  first
                    | exact thC_y c_h (by omega)
                    | exact thC_n (fun q => absurd q.1 c_h)
                    | exact thC_n (fun q => absurd q.2 (by omega))
                have hI_hbb : b1 = pq2 0 (tl 4).toInt ap as_ ast mk ((ap a1).toInt.toNat) (as_ a1).toInt ((k + 1)) ((k + 1)) := by
                  first
                    | exact hb3
                    | (rw [hbb]; exact (pq2_b (fun q => absurd q.2.1 c_h)).trans (pq2_d (fun q => absurd q.1 c_h)))
                exact ih29 (k + 1) (n + 1) b1 (by omega) (by first | assumption | omega) hI_hn hI_hbb ls (lv_sub hl [2, 3, 4, 5, 1, 7, 0] rfl)
            refine bw_icmp_ne (tgt := 132) (a := (as_ k).toInt) (b := (as_ a1).toInt) hx hb dX10_plaquesAgainst_122 (by decide) rfl rfl (fun c_5 => ?_) (fun c_5 => ?_)
            · skip
              have hI_hb3 : b1 = pq2 0 (tl 4).toInt ap as_ ast mk ((ap a1).toInt.toNat) (as_ a1).toInt (k + 1) (k + 1) := by
                first
                  | (rw [ezb, hb2]; exact pq2_c c_h (by omega))
                  | (rw [hb2]; exact pq2_d (fun q => absurd q.2 (by omega)))
              exact L_132 b1 hI_hb3 ls (lv_sub hl [0, 1, 2, 3, 4, 5, 6, 7] rfl)
            · skip
              refine lv_iload hx hb dX10_plaquesAgainst_125 (lv_at hl 7 rfl) ?_
              refine lv_bipush (v := 32) hx hb dX10_plaquesAgainst_127 (by decide) ?_
              refine lv_ior hx hb dX10_plaquesAgainst_129 ?_
              refine lv_topi (fun zb ezb => ?_)
              refine lv_istore (lv' := [(5, .int zb), (0, .ref (ad 0)), (1, .int (nI a1)), (2, .int (nI ((ap a1).toInt.toNat))), (3, .int (th ((ap a1).toInt.toNat))), (4, .int (nI n)), (6, .int (nI k)), (7, .int (nI ((ap k).toInt.toNat)))]) hx hb dX10_plaquesAgainst_130 hl (by decide) rfl (fun ls hl => ?_)
              have hI_hb3 : zb = pq2 0 (tl 4).toInt ap as_ ast mk ((ap a1).toInt.toNat) (as_ a1).toInt (k + 1) (k + 1) := by
                first
                  | (rw [ezb, hb2]; exact pq2_c c_h (by omega))
                  | (rw [hb2]; exact pq2_d (fun q => absurd q.2 (by omega)))
              exact L_132 zb hI_hb3 ls (lv_sub hl [1, 2, 3, 4, 5, 6, 7, 0] rfl)
          refine bw_icmp_ne (tgt := 103) (a := (tl 4).toInt) (b := 1) hx hb dX10_plaquesAgainst_80 (by decide) rfl rfl (fun c_1 => ?_) (fun c_1 => ?_)
          · skip
            have hI_hb2 : b = pq2 0 (tl 4).toInt ap as_ ast mk ((ap a1).toInt.toNat) (as_ a1).toInt (k + 1) (k) := by
              first
                | (rw [ezb, hbb]; exact pq2_a (by omega) c_h c_o.symm)
                | (rw [hbb]; exact pq2_b (fun q => absurd q.1 c_1))
                | (rw [hbb]; exact pq2_b (fun q => absurd q.2.2.symm c_o))
            exact L_103 b hI_hb2 ls (lv_sub hl [1, 2, 3, 4, 5, 7, 0, 6] rfl)
          · skip
            refine lv_aload_n hx hb dX10_plaquesAgainst_83 rfl (lv_at hl 1 rfl) ?_
            refine va_get (D := (dC, dI)) (ci := 10) (v := .ref (ad 9)) (C := RX10) (T := TX10) (N := 10) hx hb hts hiX10 hown hK hP 0 rfl rfl 2 (by decide) hL2 (fun _ h9 => h9) rfl dX10_plaquesAgainst_84 ?_
            refine lv_iload_n hx hb dX10_plaquesAgainst_87 rfl (lv_at hl 3 rfl) ?_
            refine lv_iload hx hb dX10_plaquesAgainst_88 (lv_at hl 0 rfl) ?_
            have hPc : va_P (dC, dI) vwCl [(ad 9, .inr (3, [.ref (ad 10), .ref (ad 11), .ref (ad 12), .ref (ad 13), .int (nI pn)])), (ad 13, .inl (cy 0, 30, .inl mk))] ss.heap := hP.sub [5, 7] rfl
            refine vp_callSi (va_Run.run (va_runV (As := [.int (nI ((ap a1).toInt.toNat)), .int (nI ((ap k).toInt.toNat))]) (rest := []) ⟨hx, hb, hml, hown, hts⟩ (c_X3_areOne l dC dI cy ad pn mk ((ap a1).toInt.toNat) ((ap k).toInt.toNat) (by first | assumption | omega) (by first | assumption | omega)) (cwV 2 hts gX10_plaquesAgainst_X3_areOne rfl rfl rfl (by decide +kernel) ⟨Nat.le_of_ble_eq_true rfl, Nat.le_of_ble_eq_true rfl⟩) ⟨fun a U g mk q => by obtain ⟨q0, qP, qK⟩ := q; exact ⟨q0, qP, va_K.moved (u := U) (U := U.calling g mk a) (Vm.Alike.refl U.vm) qK⟩, va_recv hK hPc (ci := 3) (q0 := 0) rfl rfl, fun U hU hW => ⟨rfl, by rw [hU]; exact hPc, va_K.moved hW.alike hK⟩⟩ rfl rfl hl.1 rfl (lv_room (Nat.le_of_ble_eq_true rfl)) dX10_plaquesAgainst_90 ⟨Nat.le_of_ble_eq_true rfl, Nat.le_of_ble_eq_true rfl⟩)) (fun r_6 hr_6 => ?_)
            refine bw_ifeqB (tgt := 103) hx hb dX10_plaquesAgainst_93 (by decide) hr_6 (fun c_o => ?_) (fun c_o => ?_)
            · skip
              have hI_hb2 : b = pq2 0 (tl 4).toInt ap as_ ast mk ((ap a1).toInt.toNat) (as_ a1).toInt (k + 1) (k) := by
                first
                  | (rw [ezb, hbb]; exact pq2_a (by omega) c_h c_o.symm)
                  | (rw [hbb]; exact pq2_b (fun q => absurd q.1 c_1))
                  | (rw [hbb]; exact pq2_b (fun q => absurd q.2.2.symm c_o))
              exact L_103 b hI_hb2 ls (lv_sub hl [1, 2, 3, 4, 5, 7, 0, 6] rfl)
            · skip
              refine lv_iload hx hb dX10_plaquesAgainst_96 (lv_at hl 6 rfl) ?_
              refine lv_bipush (v := 16) hx hb dX10_plaquesAgainst_98 (by decide) ?_
              refine lv_ior hx hb dX10_plaquesAgainst_100 ?_
              refine lv_topi (fun zb ezb => ?_)
              refine lv_istore (lv' := [(5, .int zb), (7, .int (nI ((ap k).toInt.toNat))), (0, .ref (ad 0)), (1, .int (nI a1)), (2, .int (nI ((ap a1).toInt.toNat))), (3, .int (th ((ap a1).toInt.toNat))), (4, .int (nI n)), (6, .int (nI k))]) hx hb dX10_plaquesAgainst_101 hl (by decide) rfl (fun ls hl => ?_)
              have hI_hb2 : zb = pq2 0 (tl 4).toInt ap as_ ast mk ((ap a1).toInt.toNat) (as_ a1).toInt (k + 1) (k) := by
                first
                  | (rw [ezb, hbb]; exact pq2_a (by omega) c_h c_o.symm)
                  | (rw [hbb]; exact pq2_b (fun q => absurd q.1 c_1))
                  | (rw [hbb]; exact pq2_b (fun q => absurd q.2.2.symm c_o))
              exact L_103 zb hI_hb2 ls (lv_sub hl [2, 3, 4, 5, 6, 7, 1, 0] rfl)
        · skip
          refine lv_goto (tgt := 149) hx hb dX10_plaquesAgainst_55 (by decide) ?_
          refine lv_iinc (v := nI (k + 1)) (lv' := [(6, .int (nI (k + 1))), (0, .ref (ad 0)), (1, .int (nI a1)), (2, .int (nI ((ap a1).toInt.toNat))), (3, .int (th ((ap a1).toInt.toNat))), (4, .int (nI n)), (5, .int b)]) hx hb dX10_plaquesAgainst_149 hl (k := 6) rfl (show nI k + Int32.ofInt 1 = nI (k + 1) from nI_add k 1) (by decide) rfl (fun ls hl => ?_)
          refine lv_goto (tgt := 29) hx hb dX10_plaquesAgainst_152 (by decide) ?_
          have hI_hn : n = thC ap ast th (th ((ap a1).toInt.toNat)).toInt (k + 1) := by
            rw [hn]
            first
              | exact thC_y c_h (by omega)
              | exact thC_n (fun q => absurd q.1 c_h)
              | exact thC_n (fun q => absurd q.2 (by omega))
          have hI_hbb : b = pq2 0 (tl 4).toInt ap as_ ast mk ((ap a1).toInt.toNat) (as_ a1).toInt ((k + 1)) ((k + 1)) := by
            first
              | exact hb3
              | (rw [hbb]; exact (pq2_b (fun q => absurd q.2.1 c_h)).trans (pq2_d (fun q => absurd q.1 c_h)))
          exact ih29 (k + 1) n b (by omega) (by first | assumption | omega) hI_hn hI_hbb ls (lv_sub hl [1, 2, 3, 4, 5, 6, 0] rfl)
  have hI_hn : 0 = thC ap ast th (th ((ap a1).toInt.toNat)).toInt 0 := by
    rfl
  have hI_hbb : 0 = pq2 0 (tl 4).toInt ap as_ ast mk ((ap a1).toInt.toNat) (as_ a1).toInt (0) (0) := by
    exact pq2_0
  exact L_29 ((an - 0) + 1) 0 0 0 (by omega) (by first | assumption | omega) hI_hn hI_hbb ls (lv_sub hl [5, 6, 4, 3, 2, 1, 0] rfl)
