theorem or_skip {A B : Prop} (h : ¬ B) : pB A = (pB A || pB B) := by rw [pB_f h, Bool.or_false]
theorem or_take {A B C : Prop} (h : B ↔ C) : (pB A || pB B) = (pB A || pB C) := by rw [pB_cong h]
theorem rb_zero {f : Nat → Int64} (h : ∀ k, k < 10 → f k = 0) (i : Nat) (hi : i < 640) : rb f i = false := by
  unfold rb; rw [h _ (by omega)]; exact lb_0 _
/-- what is known of the years, by themselves -/
noncomputable def lvB (L : Int → Prop) (i : Nat) : Bool := pB (L (1500 + (i : Int)))
def fstIs (p : Nat → Bool) (r : Int32) : Prop := (∃ i9, i9 < 601 ∧ p i9 = true ∧ (∀ j9, j9 < i9 → p j9 = false) ∧ r = nI (1500 + i9)) ∨ (r = -1 ∧ ∀ i9, i9 < 601 → p i9 = false)
def lstIs (p : Nat → Bool) (r : Int32) : Prop := (∃ i9, i9 < 601 ∧ p i9 = true ∧ (∀ j9, i9 < j9 → j9 < 601 → p j9 = false) ∧ r = nI (1500 + i9)) ∨ (r = -1 ∧ ∀ i9, i9 < 601 → p i9 = false)
theorem fst_one {p : Nat → Bool} {r r2 : Int32} (h : fstIs p r) (h2 : fstIs p r2) : r = r2 := by
  rcases h with ⟨i, a1, a2, a3, a4⟩ | ⟨a1, a2⟩
  · rcases h2 with ⟨j, b1, b2, b3, b4⟩ | ⟨b1, b2⟩
    · rcases Nat.lt_trichotomy i j with q | q | q
      · rw [b3 i q] at a2; cases a2
      · rw [a4, b4, q]
      · rw [a3 j q] at b2; cases b2
    · rw [b2 i a1] at a2; cases a2
  · rcases h2 with ⟨j, b1, b2, b3, b4⟩ | ⟨b1, b2⟩
    · rw [a2 j b1] at b2; cases b2
    · rw [a1, b1]
theorem lst_one {p : Nat → Bool} {r r2 : Int32} (h : lstIs p r) (h2 : lstIs p r2) : r = r2 := by
  rcases h with ⟨i, a1, a2, a3, a4⟩ | ⟨a1, a2⟩
  · rcases h2 with ⟨j, b1, b2, b3, b4⟩ | ⟨b1, b2⟩
    · rcases Nat.lt_trichotomy i j with q | q | q
      · rw [a3 j q b1] at b2; cases b2
      · rw [a4, b4, q]
      · rw [b3 i q a1] at a2; cases a2
    · rw [b2 i a1] at a2; cases a2
  · rcases h2 with ⟨j, b1, b2, b3, b4⟩ | ⟨b1, b2⟩
    · rw [a2 j b1] at b2; cases b2
    · rw [a1, b1]
theorem liv_hi {qp qs qt qm qf ql qx mk : Nat → Int32} {G : Int32 → Int32 → Int → Prop} {qn pn p : Nat} {i : Nat} (hq : qOK qp qs qf ql qx qn pn) (hi : 601 ≤ i) : pB (liv qp qt qm qf ql qx mk G qn p (1500 + (i : Int))) = false :=
  pB_f (fun ⟨k, h1, _, _, _, h5, _⟩ => by have := (hq.2.2.2 k h1).2.2; omega)
theorem ct_640 {p q : Nat → Bool} (h : ∀ i, i < 640 → p i = q i) (h2 : ∀ i, 601 ≤ i → q i = false) : fb_ct p 640 = fb_ct q 601 := by
  rw [fb_ct_cong h, show (640 : Nat) = 601 + 39 from rfl, fb_ct_split, show fb_ct (fun k => q (601 + k)) 39 = 0 from fb_ct_zero.mpr (fun k _ => h2 _ (by omega)), Nat.add_zero]
theorem fst_640 {p q : Nat → Bool} {r : Int32} (h : ∀ i, i < 640 → p i = q i) (h2 : ∀ i, 601 ≤ i → q i = false) (hr : (∃ i9, i9 < 640 ∧ p i9 = true ∧ (∀ j9, j9 < i9 → p j9 = false) ∧ r = nI (1500 + i9)) ∨ (r = -1 ∧ ∀ i9, i9 < 640 → p i9 = false)) : fstIs q r := by
  rcases hr with ⟨i, a1, a2, a3, a4⟩ | ⟨a1, a2⟩
  · rw [h i a1] at a2
    have hi : i < 601 := by
      rcases Nat.lt_or_ge i 601 with z | z
      · exact z
      · rw [h2 i z] at a2; cases a2
    exact Or.inl ⟨i, hi, a2, fun j hj => by rw [← h j (by omega)]; exact a3 j hj, a4⟩
  · exact Or.inr ⟨a1, fun i hi => by rw [← h i (by omega)]; exact a2 i (by omega)⟩
theorem lst_640 {p q : Nat → Bool} {r : Int32} (h : ∀ i, i < 640 → p i = q i) (h2 : ∀ i, 601 ≤ i → q i = false) (hr : (∃ i9, i9 < 640 ∧ p i9 = true ∧ (∀ j9, i9 < j9 → j9 < 640 → p j9 = false) ∧ r = nI (1500 + i9)) ∨ (r = -1 ∧ ∀ i9, i9 < 640 → p i9 = false)) : lstIs q r := by
  rcases hr with ⟨i, a1, a2, a3, a4⟩ | ⟨a1, a2⟩
  · rw [h i a1] at a2
    have hi : i < 601 := by
      rcases Nat.lt_or_ge i 601 with z | z
      · exact z
      · rw [h2 i z] at a2; cases a2
    exact Or.inl ⟨i, hi, a2, fun j hj hj2 => by rw [← h j (by omega)]; exact a3 j hj (by omega), a4⟩
  · exact Or.inr ⟨a1, fun i hi => by rw [← h i (by omega)]; exact a2 i (by omega)⟩
set_option maxHeartbeats 4000000 in
set_option maxRecDepth 100000 in
theorem c_X7_study (l : Launch) (dC : Nat → ClassId) (dI : Nat → Nat → Nat) (cy : Nat → ClassId) (ad : Nat → Nat) (sb : Int32) (su : Nat → Int64) (my : Nat → Int64) (pn : Nat) (qn : Nat) (mk : Nat → Int32) (qp : Nat → Int32) (qs : Nat → Int32) (qt : Nat → Int32) (qm : Nat → Int32) (qf : Nat → Int32) (ql : Nat → Int32) (qx : Nat → Int32) (sn : Nat) (nb : Nat → Int32) (fr : Nat → Int32) (tt : Nat → Int32) (st : Nat → Int32) (nu : Nat → Int32) (p : Nat) (s : Nat) (sz : Nat) (hall : sOK nb fr tt sn) (hq : qOK qp qs qf ql qx qn pn) (hp9 : p < pn) (hs9 : s < sn) : Met l yX7_study wsX7_study ({ frames := 4, cells := 0, slots := 0, locals := 113 }) (va_Pc [.ref (ad 22), .int (nI p), .int (nI s)] (fun U => U.heap.size = sz ∧ va_P (dC, dI) vwCl [(ad 22, .inr (7, [.ref (ad 3), .ref (ad 9), .ref (ad 14), .ref (ad 23), .ref (ad 24), .int sb])), (ad 23, .inl (cy 1, 10, .inr (.inl su))), (ad 24, .inl (cy 1, 10, .inr (.inl my))), (ad 9, .inr (3, [.ref (ad 10), .ref (ad 11), .ref (ad 12), .ref (ad 13), .int (nI pn)])), (ad 13, .inl (cy 0, 30, .inl mk)), (ad 14, .inr (2, [.ref (ad 15), .ref (ad 16), .ref (ad 17), .ref (ad 18), .ref (ad 19), .ref (ad 20), .ref (ad 21), .int (nI qn)])), (ad 15, .inl (cy 0, 100, .inl qp)), (ad 16, .inl (cy 0, 100, .inl qs)), (ad 17, .inl (cy 0, 100, .inl qt)), (ad 18, .inl (cy 0, 100, .inl qm)), (ad 19, .inl (cy 0, 100, .inl qf)), (ad 20, .inl (cy 0, 100, .inl ql)), (ad 21, .inl (cy 2, 100, .inl qx)), (ad 3, .inr (6, [.ref (ad 4), .ref (ad 5), .ref (ad 6), .ref (ad 7), .ref (ad 8), .int (nI sn)])), (ad 4, .inl (cy 0, 40, .inl nb)), (ad 5, .inl (cy 0, 320, .inl fr)), (ad 6, .inl (cy 0, 320, .inl tt)), (ad 7, .inl (cy 0, 320, .inl st)), (ad 8, .inl (cy 0, 320, .inl nu))] U.heap ∧ va_K (dC, dI) vwCl (tyL cy) U ∧ va_D (fun _ => True) [(ad 22, .inr (7, [.ref (ad 3), .ref (ad 9), .ref (ad 14), .ref (ad 23), .ref (ad 24), .int sb])), (ad 23, .inl (cy 1, 10, .inr (.inl su))), (ad 24, .inl (cy 1, 10, .inr (.inl my))), (ad 9, .inr (3, [.ref (ad 10), .ref (ad 11), .ref (ad 12), .ref (ad 13), .int (nI pn)])), (ad 13, .inl (cy 0, 30, .inl mk)), (ad 14, .inr (2, [.ref (ad 15), .ref (ad 16), .ref (ad 17), .ref (ad 18), .ref (ad 19), .ref (ad 20), .ref (ad 21), .int (nI qn)])), (ad 15, .inl (cy 0, 100, .inl qp)), (ad 16, .inl (cy 0, 100, .inl qs)), (ad 17, .inl (cy 0, 100, .inl qt)), (ad 18, .inl (cy 0, 100, .inl qm)), (ad 19, .inl (cy 0, 100, .inl qf)), (ad 20, .inl (cy 0, 100, .inl ql)), (ad 21, .inl (cy 2, 100, .inl qx)), (ad 3, .inr (6, [.ref (ad 4), .ref (ad 5), .ref (ad 6), .ref (ad 7), .ref (ad 8), .int (nI sn)])), (ad 4, .inl (cy 0, 40, .inl nb)), (ad 5, .inl (cy 0, 320, .inl fr)), (ad 6, .inl (cy 0, 320, .inl tt)), (ad 7, .inl (cy 0, 320, .inl st)), (ad 8, .inl (cy 0, 320, .inl nu))])) (va_Qv (S := Int32 × (Nat → Int64) × (Nat → Int64)) (fun u => match u with | (sb2, su2, my2) => (∀ i9, i9 < 640 → rb su2 i9 = pB (liv qp qt qm qf ql qx mk (fun t9 m9 y9 => sOnly nb fr tt st nu sn s t9 m9 y9) qn p (1500 + ((i9 : Nat) : Int)))) ∧ (∀ i9, i9 < 640 → rb my2 i9 = pB (liv qp qt qm qf ql qx mk (fun t9 m9 y9 => sPos nb fr tt st nu s t9 m9 y9) qn p (1500 + ((i9 : Nat) : Int)))) ∧ (∃ b9, b9 < 64 ∧ sb2 = nI b9 ∧ ∀ j9, j9 < 6 → b9.testBit j9 = pB (src qp qs qt qm qf ql qx mk (fun t9 m9 y9 => sOnly nb fr tt st nu sn s t9 m9 y9) qn p j9))) (fun u => match u with | (sb2, su2, my2) => fun t => va_P (dC, dI) vwCl [(ad 22, .inr (7, [.ref (ad 3), .ref (ad 9), .ref (ad 14), .ref (ad 23), .ref (ad 24), .int sb2])), (ad 23, .inl (cy 1, 10, .inr (.inl su2))), (ad 24, .inl (cy 1, 10, .inr (.inl my2))), (ad 9, .inr (3, [.ref (ad 10), .ref (ad 11), .ref (ad 12), .ref (ad 13), .int (nI pn)])), (ad 13, .inl (cy 0, 30, .inl mk)), (ad 14, .inr (2, [.ref (ad 15), .ref (ad 16), .ref (ad 17), .ref (ad 18), .ref (ad 19), .ref (ad 20), .ref (ad 21), .int (nI qn)])), (ad 15, .inl (cy 0, 100, .inl qp)), (ad 16, .inl (cy 0, 100, .inl qs)), (ad 17, .inl (cy 0, 100, .inl qt)), (ad 18, .inl (cy 0, 100, .inl qm)), (ad 19, .inl (cy 0, 100, .inl qf)), (ad 20, .inl (cy 0, 100, .inl ql)), (ad 21, .inl (cy 2, 100, .inl qx)), (ad 3, .inr (6, [.ref (ad 4), .ref (ad 5), .ref (ad 6), .ref (ad 7), .ref (ad 8), .int (nI sn)])), (ad 4, .inl (cy 0, 40, .inl nb)), (ad 5, .inl (cy 0, 320, .inl fr)), (ad 6, .inl (cy 0, 320, .inl tt)), (ad 7, .inl (cy 0, 320, .inl st)), (ad 8, .inl (cy 0, 320, .inl nu))] t.heap ∧ va_K (dC, dI) vwCl (tyL cy) t ∧ va_D (va_A [(ad 22, .inr (7, [.ref (ad 3), .ref (ad 9), .ref (ad 14), .ref (ad 23), .ref (ad 24), .int sb])), (ad 23, .inl (cy 1, 10, .inr (.inl su))), (ad 24, .inl (cy 1, 10, .inr (.inl my))), (ad 9, .inr (3, [.ref (ad 10), .ref (ad 11), .ref (ad 12), .ref (ad 13), .int (nI pn)])), (ad 13, .inl (cy 0, 30, .inl mk)), (ad 14, .inr (2, [.ref (ad 15), .ref (ad 16), .ref (ad 17), .ref (ad 18), .ref (ad 19), .ref (ad 20), .ref (ad 21), .int (nI qn)])), (ad 15, .inl (cy 0, 100, .inl qp)), (ad 16, .inl (cy 0, 100, .inl qs)), (ad 17, .inl (cy 0, 100, .inl qt)), (ad 18, .inl (cy 0, 100, .inl qm)), (ad 19, .inl (cy 0, 100, .inl qf)), (ad 20, .inl (cy 0, 100, .inl ql)), (ad 21, .inl (cy 2, 100, .inl qx)), (ad 3, .inr (6, [.ref (ad 4), .ref (ad 5), .ref (ad 6), .ref (ad 7), .ref (ad 8), .int (nI sn)])), (ad 4, .inl (cy 0, 40, .inl nb)), (ad 5, .inl (cy 0, 320, .inl fr)), (ad 6, .inl (cy 0, 320, .inl tt)), (ad 7, .inl (cy 0, 320, .inl st)), (ad 8, .inl (cy 0, 320, .inl nu))] sz) [(ad 22, .inr (7, [.ref (ad 3), .ref (ad 9), .ref (ad 14), .ref (ad 23), .ref (ad 24), .int sb2])), (ad 23, .inl (cy 1, 10, .inr (.inl su2))), (ad 24, .inl (cy 1, 10, .inr (.inl my2))), (ad 9, .inr (3, [.ref (ad 10), .ref (ad 11), .ref (ad 12), .ref (ad 13), .int (nI pn)])), (ad 13, .inl (cy 0, 30, .inl mk)), (ad 14, .inr (2, [.ref (ad 15), .ref (ad 16), .ref (ad 17), .ref (ad 18), .ref (ad 19), .ref (ad 20), .ref (ad 21), .int (nI qn)])), (ad 15, .inl (cy 0, 100, .inl qp)), (ad 16, .inl (cy 0, 100, .inl qs)), (ad 17, .inl (cy 0, 100, .inl qt)), (ad 18, .inl (cy 0, 100, .inl qm)), (ad 19, .inl (cy 0, 100, .inl qf)), (ad 20, .inl (cy 0, 100, .inl ql)), (ad 21, .inl (cy 2, 100, .inl qx)), (ad 3, .inr (6, [.ref (ad 4), .ref (ad 5), .ref (ad 6), .ref (ad 7), .ref (ad 8), .int (nI sn)])), (ad 4, .inl (cy 0, 40, .inl nb)), (ad 5, .inl (cy 0, 320, .inl fr)), (ad 6, .inl (cy 0, 320, .inl tt)), (ad 7, .inl (cy 0, 320, .inl st)), (ad 8, .inl (cy 0, 320, .inl nu))]) (va_A [(ad 22, .inr (7, [.ref (ad 3), .ref (ad 9), .ref (ad 14), .ref (ad 23), .ref (ad 24), .int sb])), (ad 23, .inl (cy 1, 10, .inr (.inl su))), (ad 24, .inl (cy 1, 10, .inr (.inl my))), (ad 9, .inr (3, [.ref (ad 10), .ref (ad 11), .ref (ad 12), .ref (ad 13), .int (nI pn)])), (ad 13, .inl (cy 0, 30, .inl mk)), (ad 14, .inr (2, [.ref (ad 15), .ref (ad 16), .ref (ad 17), .ref (ad 18), .ref (ad 19), .ref (ad 20), .ref (ad 21), .int (nI qn)])), (ad 15, .inl (cy 0, 100, .inl qp)), (ad 16, .inl (cy 0, 100, .inl qs)), (ad 17, .inl (cy 0, 100, .inl qt)), (ad 18, .inl (cy 0, 100, .inl qm)), (ad 19, .inl (cy 0, 100, .inl qf)), (ad 20, .inl (cy 0, 100, .inl ql)), (ad 21, .inl (cy 2, 100, .inl qx)), (ad 3, .inr (6, [.ref (ad 4), .ref (ad 5), .ref (ad 6), .ref (ad 7), .ref (ad 8), .int (nI sn)])), (ad 4, .inl (cy 0, 40, .inl nb)), (ad 5, .inl (cy 0, 320, .inl fr)), (ad 6, .inl (cy 0, 320, .inl tt)), (ad 7, .inl (cy 0, 320, .inl st)), (ad 8, .inl (cy 0, 320, .inl nu))] sz)) 0 0 (va_A [(ad 22, .inr (7, [.ref (ad 3), .ref (ad 9), .ref (ad 14), .ref (ad 23), .ref (ad 24), .int sb])), (ad 23, .inl (cy 1, 10, .inr (.inl su))), (ad 24, .inl (cy 1, 10, .inr (.inl my))), (ad 9, .inr (3, [.ref (ad 10), .ref (ad 11), .ref (ad 12), .ref (ad 13), .int (nI pn)])), (ad 13, .inl (cy 0, 30, .inl mk)), (ad 14, .inr (2, [.ref (ad 15), .ref (ad 16), .ref (ad 17), .ref (ad 18), .ref (ad 19), .ref (ad 20), .ref (ad 21), .int (nI qn)])), (ad 15, .inl (cy 0, 100, .inl qp)), (ad 16, .inl (cy 0, 100, .inl qs)), (ad 17, .inl (cy 0, 100, .inl qt)), (ad 18, .inl (cy 0, 100, .inl qm)), (ad 19, .inl (cy 0, 100, .inl qf)), (ad 20, .inl (cy 0, 100, .inl ql)), (ad 21, .inl (cy 2, 100, .inl qx)), (ad 3, .inr (6, [.ref (ad 4), .ref (ad 5), .ref (ad 6), .ref (ad 7), .ref (ad 8), .int (nI sn)])), (ad 4, .inl (cy 0, 40, .inl nb)), (ad 5, .inl (cy 0, 320, .inl fr)), (ad 6, .inl (cy 0, 320, .inl tt)), (ad 7, .inl (cy 0, 320, .inl st)), (ad 8, .inl (cy 0, 320, .inl nu))] sz) := by
  refine Met.ofW (cc := cX7_study) (maxL := 4) (ret := none) (by decide) rfl ?_
  intro pp ee ss mm args below meth cc0 s₁ B hml hv
  obtain ⟨rfl, hsz, hP, hK, hD0⟩ := hv
  have hx := B.exec
  have hb := B.bytes
  have hr := B.returns
  have hts := atoms_spec (ws := wsX7_study) B.pre
  have hown : ss.vm.findClass RX7 = some mm.cls := findClass_of_methodNamed B.named
  have hlocks := B.notSynchronized
  have hL0 := hts (.fieldLink RX7 30 "HereLived$Stay" "sourceBits" "I") (by decide +kernel)
  have hL1 := hts (.fieldLink RX7 19 "HereLived$Stay" "papers" "LHereLived$Papers;") (by decide +kernel)
  have hL2 := hts (.fieldLink RX7 34 "HereLived$Papers" "size" "I") (by decide +kernel)
  have hL3 := hts (.fieldLink RX7 39 "HereLived$Papers" "isFalse" "[Z") (by decide +kernel)
  have hL4 := hts (.fieldLink RX7 15 "HereLived$Stay" "people" "LHereLived$People;") (by decide +kernel)
  have hL5 := hts (.fieldLink RX7 43 "HereLived$Papers" "ofPerson" "[I") (by decide +kernel)
  have hL6 := hts (.fieldLink RX7 23 "HereLived$Stay" "sure" "[J") (by decide +kernel)
  have hL7 := hts (.fieldLink RX7 27 "HereLived$Stay" "maybe" "[J") (by decide +kernel)
  have hiX2 : ∀ w ∈ wsX20, w ∈ wsX7_study := by decide +kernel
  have hiX7 : ∀ w ∈ wsX70, w ∈ wsX7_study := by decide +kernel
  subst hsz
  have hD := hD0.self (sz := ss.heap.size)
  generalize hAe : va_A [(ad 22, .inr (7, [.ref (ad 3), .ref (ad 9), .ref (ad 14), .ref (ad 23), .ref (ad 24), .int sb])), (ad 23, .inl (cy 1, 10, .inr (.inl su))), (ad 24, .inl (cy 1, 10, .inr (.inl my))), (ad 9, .inr (3, [.ref (ad 10), .ref (ad 11), .ref (ad 12), .ref (ad 13), .int (nI pn)])), (ad 13, .inl (cy 0, 30, .inl mk)), (ad 14, .inr (2, [.ref (ad 15), .ref (ad 16), .ref (ad 17), .ref (ad 18), .ref (ad 19), .ref (ad 20), .ref (ad 21), .int (nI qn)])), (ad 15, .inl (cy 0, 100, .inl qp)), (ad 16, .inl (cy 0, 100, .inl qs)), (ad 17, .inl (cy 0, 100, .inl qt)), (ad 18, .inl (cy 0, 100, .inl qm)), (ad 19, .inl (cy 0, 100, .inl qf)), (ad 20, .inl (cy 0, 100, .inl ql)), (ad 21, .inl (cy 2, 100, .inl qx)), (ad 3, .inr (6, [.ref (ad 4), .ref (ad 5), .ref (ad 6), .ref (ad 7), .ref (ad 8), .int (nI sn)])), (ad 4, .inl (cy 0, 40, .inl nb)), (ad 5, .inl (cy 0, 320, .inl fr)), (ad 6, .inl (cy 0, 320, .inl tt)), (ad 7, .inl (cy 0, 320, .inl st)), (ad 8, .inl (cy 0, 320, .inl nu))] ss.heap.size = A at hD ⊢
  have hA : ∀ q : Nat, ss.heap.size ≤ q → A q := fun q h => by rw [← hAe]; exact Or.inr h
  have hS : va_S A ss.heap ss.heap [] := va_S.rf
  have hP : va_P (dC, dI) vwCl [(ad 22, .inr (7, [.ref (ad 3), .ref (ad 9), .ref (ad 14), .ref (ad 23), .ref (ad 24), .int sb])), (ad 23, .inl (cy 1, 10, .inr (.inl su))), (ad 24, .inl (cy 1, 10, .inr (.inl my))), (ad 9, .inr (3, [.ref (ad 10), .ref (ad 11), .ref (ad 12), .ref (ad 13), .int (nI pn)])), (ad 13, .inl (cy 0, 30, .inl mk)), (ad 14, .inr (2, [.ref (ad 15), .ref (ad 16), .ref (ad 17), .ref (ad 18), .ref (ad 19), .ref (ad 20), .ref (ad 21), .int (nI qn)])), (ad 15, .inl (cy 0, 100, .inl qp)), (ad 16, .inl (cy 0, 100, .inl qs)), (ad 17, .inl (cy 0, 100, .inl qt)), (ad 18, .inl (cy 0, 100, .inl qm)), (ad 19, .inl (cy 0, 100, .inl qf)), (ad 20, .inl (cy 0, 100, .inl ql)), (ad 21, .inl (cy 2, 100, .inl qx)), (ad 3, .inr (6, [.ref (ad 4), .ref (ad 5), .ref (ad 6), .ref (ad 7), .ref (ad 8), .int (nI sn)])), (ad 4, .inl (cy 0, 40, .inl nb)), (ad 5, .inl (cy 0, 320, .inl fr)), (ad 6, .inl (cy 0, 320, .inl tt)), (ad 7, .inl (cy 0, 320, .inl st)), (ad 8, .inl (cy 0, 320, .inl nu))] ss.heap := hP
  have hl := lv_entry ([.ref (ad 22), .int (nI p), .int (nI s)]) (n := 4) (Nat.le_of_ble_eq_true rfl)
  rw [lg_entry_eq]
  generalize (lg_sl ([.ref (ad 22), .int (nI p), .int (nI s)]) ++ List.replicate (4 - (lg_sl ([.ref (ad 22), .int (nI p), .int (nI s)])).length) Slot.unset).toArray = ls at hl ⊢
  have hl : lv_has ls 4 [(0, .ref (ad 22)), (1, .int (nI p)), (2, .int (nI s))] := hl
  refine bw_Q (fun Q hQ => ?_)
  refine bw_H0 (fun H locs eH eL => ?_)
  have hS : va_S A ss.heap H locs := by rw [eH, eL]; exact hS
  have hP : va_P (dC, dI) vwCl [(ad 22, .inr (7, [.ref (ad 3), .ref (ad 9), .ref (ad 14), .ref (ad 23), .ref (ad 24), .int sb])), (ad 23, .inl (cy 1, 10, .inr (.inl su))), (ad 24, .inl (cy 1, 10, .inr (.inl my))), (ad 9, .inr (3, [.ref (ad 10), .ref (ad 11), .ref (ad 12), .ref (ad 13), .int (nI pn)])), (ad 13, .inl (cy 0, 30, .inl mk)), (ad 14, .inr (2, [.ref (ad 15), .ref (ad 16), .ref (ad 17), .ref (ad 18), .ref (ad 19), .ref (ad 20), .ref (ad 21), .int (nI qn)])), (ad 15, .inl (cy 0, 100, .inl qp)), (ad 16, .inl (cy 0, 100, .inl qs)), (ad 17, .inl (cy 0, 100, .inl qt)), (ad 18, .inl (cy 0, 100, .inl qm)), (ad 19, .inl (cy 0, 100, .inl qf)), (ad 20, .inl (cy 0, 100, .inl ql)), (ad 21, .inl (cy 2, 100, .inl qx)), (ad 3, .inr (6, [.ref (ad 4), .ref (ad 5), .ref (ad 6), .ref (ad 7), .ref (ad 8), .int (nI sn)])), (ad 4, .inl (cy 0, 40, .inl nb)), (ad 5, .inl (cy 0, 320, .inl fr)), (ad 6, .inl (cy 0, 320, .inl tt)), (ad 7, .inl (cy 0, 320, .inl st)), (ad 8, .inl (cy 0, 320, .inl nu))] H := by rw [eH]; exact hP
  change W pp l ee { frames := 4, cells := 0, slots := 0, locals := 113 } ss mm _ below meth cc0 H locs 0 0 Q (F0 mm 0 ls [])
  refine lv_iconst (v := 0) hx hb dX7_study_0 (by decide) ?_
  refine lv_istore_n (lv' := [(3, .int 0), (0, .ref (ad 22)), (1, .int (nI p)), (2, .int (nI s))]) hx hb dX7_study_1 rfl hl (by decide) rfl (fun ls hl => ?_)
  have L_2 : ∀ (n9 : Nat), ∀ (i : Nat) (f : Nat → Int64) (g : Nat → Int64), (10 - i) < n9 → (i ≤ 10) → (∀ k, k < i → f k = 0 ∧ g k = 0) → ∀ (H : Heap) (locs : List Loc), va_P (dC, dI) vwCl [(ad 22, .inr (7, [.ref (ad 3), .ref (ad 9), .ref (ad 14), .ref (ad 23), .ref (ad 24), .int sb])), (ad 23, .inl (cy 1, 10, .inr (.inl f))), (ad 24, .inl (cy 1, 10, .inr (.inl g))), (ad 9, .inr (3, [.ref (ad 10), .ref (ad 11), .ref (ad 12), .ref (ad 13), .int (nI pn)])), (ad 13, .inl (cy 0, 30, .inl mk)), (ad 14, .inr (2, [.ref (ad 15), .ref (ad 16), .ref (ad 17), .ref (ad 18), .ref (ad 19), .ref (ad 20), .ref (ad 21), .int (nI qn)])), (ad 15, .inl (cy 0, 100, .inl qp)), (ad 16, .inl (cy 0, 100, .inl qs)), (ad 17, .inl (cy 0, 100, .inl qt)), (ad 18, .inl (cy 0, 100, .inl qm)), (ad 19, .inl (cy 0, 100, .inl qf)), (ad 20, .inl (cy 0, 100, .inl ql)), (ad 21, .inl (cy 2, 100, .inl qx)), (ad 3, .inr (6, [.ref (ad 4), .ref (ad 5), .ref (ad 6), .ref (ad 7), .ref (ad 8), .int (nI sn)])), (ad 4, .inl (cy 0, 40, .inl nb)), (ad 5, .inl (cy 0, 320, .inl fr)), (ad 6, .inl (cy 0, 320, .inl tt)), (ad 7, .inl (cy 0, 320, .inl st)), (ad 8, .inl (cy 0, 320, .inl nu))] H → va_D A [(ad 22, .inr (7, [.ref (ad 3), .ref (ad 9), .ref (ad 14), .ref (ad 23), .ref (ad 24), .int sb])), (ad 23, .inl (cy 1, 10, .inr (.inl f))), (ad 24, .inl (cy 1, 10, .inr (.inl g))), (ad 9, .inr (3, [.ref (ad 10), .ref (ad 11), .ref (ad 12), .ref (ad 13), .int (nI pn)])), (ad 13, .inl (cy 0, 30, .inl mk)), (ad 14, .inr (2, [.ref (ad 15), .ref (ad 16), .ref (ad 17), .ref (ad 18), .ref (ad 19), .ref (ad 20), .ref (ad 21), .int (nI qn)])), (ad 15, .inl (cy 0, 100, .inl qp)), (ad 16, .inl (cy 0, 100, .inl qs)), (ad 17, .inl (cy 0, 100, .inl qt)), (ad 18, .inl (cy 0, 100, .inl qm)), (ad 19, .inl (cy 0, 100, .inl qf)), (ad 20, .inl (cy 0, 100, .inl ql)), (ad 21, .inl (cy 2, 100, .inl qx)), (ad 3, .inr (6, [.ref (ad 4), .ref (ad 5), .ref (ad 6), .ref (ad 7), .ref (ad 8), .int (nI sn)])), (ad 4, .inl (cy 0, 40, .inl nb)), (ad 5, .inl (cy 0, 320, .inl fr)), (ad 6, .inl (cy 0, 320, .inl tt)), (ad 7, .inl (cy 0, 320, .inl st)), (ad 8, .inl (cy 0, 320, .inl nu))] → va_S A ss.heap H locs → ∀ (ls : Array Slot), lv_has ls 4 [(0, .ref (ad 22)), (1, .int (nI p)), (2, .int (nI s)), (3, .int (nI i))] → W pp l ee { frames := 4, cells := 0, slots := 0, locals := 113 } ss mm (List.toArray [Value.ref (ad 22), Value.int (nI p), Value.int (nI s)]) below meth cc0 H locs 0 0 Q (F0 mm 2 ls []) := by
    intro n9
    induction n9 with
    | zero => intro i f g hm9; exact absurd hm9 (Nat.not_lt_zero _)
    | succ n9 ih2 =>
      intro i f g hm2 hi hf
      intro H locs hP hD hS
      intro ls hl
      refine lv_iload_n hx hb dX7_study_2 rfl (lv_at hl 3 rfl) ?_
      refine lv_bipush (v := 10) hx hb dX7_study_3 (by decide) ?_
      refine bw_icmp_ge (tgt := 28) (a := ((i : Nat) : Int)) (b := 10) hx hb dX7_study_5 (by decide) (nI_toInt (by omega)) rfl (fun c_1 => ?_) (fun c_1 => ?_)
      · skip
        refine lv_aload_n hx hb dX7_study_28 rfl (lv_at hl 0 rfl) ?_
        refine lv_iconst (v := 0) hx hb dX7_study_29 (by decide) ?_
        refine va_put (D := (dC, dI)) (ci := 7) (v := .int 0) (ty := (tyX7 5)) (C := RX7) (T := TX7) (N := 6) hx hb hts hiX7 tyX7 tyX7_ok nmX7 hown hK hP hD hS 0 rfl rfl 5 (by decide) hL0 (fun _ h9 => h9) rfl (by decide +kernel) rfl rfl (Nat.le_of_ble_eq_true rfl) dX7_study_30 (fun H locs hP hD hS => ?_)
        have hP : va_P (dC, dI) vwCl [(ad 22, .inr (7, [.ref (ad 3), .ref (ad 9), .ref (ad 14), .ref (ad 23), .ref (ad 24), .int 0])), (ad 23, .inl (cy 1, 10, .inr (.inl f))), (ad 24, .inl (cy 1, 10, .inr (.inl g))), (ad 9, .inr (3, [.ref (ad 10), .ref (ad 11), .ref (ad 12), .ref (ad 13), .int (nI pn)])), (ad 13, .inl (cy 0, 30, .inl mk)), (ad 14, .inr (2, [.ref (ad 15), .ref (ad 16), .ref (ad 17), .ref (ad 18), .ref (ad 19), .ref (ad 20), .ref (ad 21), .int (nI qn)])), (ad 15, .inl (cy 0, 100, .inl qp)), (ad 16, .inl (cy 0, 100, .inl qs)), (ad 17, .inl (cy 0, 100, .inl qt)), (ad 18, .inl (cy 0, 100, .inl qm)), (ad 19, .inl (cy 0, 100, .inl qf)), (ad 20, .inl (cy 0, 100, .inl ql)), (ad 21, .inl (cy 2, 100, .inl qx)), (ad 3, .inr (6, [.ref (ad 4), .ref (ad 5), .ref (ad 6), .ref (ad 7), .ref (ad 8), .int (nI sn)])), (ad 4, .inl (cy 0, 40, .inl nb)), (ad 5, .inl (cy 0, 320, .inl fr)), (ad 6, .inl (cy 0, 320, .inl tt)), (ad 7, .inl (cy 0, 320, .inl st)), (ad 8, .inl (cy 0, 320, .inl nu))] H := hP
        have hD : va_D A [(ad 22, .inr (7, [.ref (ad 3), .ref (ad 9), .ref (ad 14), .ref (ad 23), .ref (ad 24), .int 0])), (ad 23, .inl (cy 1, 10, .inr (.inl f))), (ad 24, .inl (cy 1, 10, .inr (.inl g))), (ad 9, .inr (3, [.ref (ad 10), .ref (ad 11), .ref (ad 12), .ref (ad 13), .int (nI pn)])), (ad 13, .inl (cy 0, 30, .inl mk)), (ad 14, .inr (2, [.ref (ad 15), .ref (ad 16), .ref (ad 17), .ref (ad 18), .ref (ad 19), .ref (ad 20), .ref (ad 21), .int (nI qn)])), (ad 15, .inl (cy 0, 100, .inl qp)), (ad 16, .inl (cy 0, 100, .inl qs)), (ad 17, .inl (cy 0, 100, .inl qt)), (ad 18, .inl (cy 0, 100, .inl qm)), (ad 19, .inl (cy 0, 100, .inl qf)), (ad 20, .inl (cy 0, 100, .inl ql)), (ad 21, .inl (cy 2, 100, .inl qx)), (ad 3, .inr (6, [.ref (ad 4), .ref (ad 5), .ref (ad 6), .ref (ad 7), .ref (ad 8), .int (nI sn)])), (ad 4, .inl (cy 0, 40, .inl nb)), (ad 5, .inl (cy 0, 320, .inl fr)), (ad 6, .inl (cy 0, 320, .inl tt)), (ad 7, .inl (cy 0, 320, .inl st)), (ad 8, .inl (cy 0, 320, .inl nu))] := hD
        refine lv_iconst (v := 0) hx hb dX7_study_33 (by decide) ?_
        refine lv_istore_n (lv' := [(3, .int 0), (0, .ref (ad 22)), (1, .int (nI p)), (2, .int (nI s))]) hx hb dX7_study_34 rfl hl (by decide) rfl (fun ls hl => ?_)
        have L_35 : ∀ (n9 : Nat), ∀ (k : Nat) (f : Nat → Int64) (g : Nat → Int64) (b : Int32), (qn - k) < n9 → (k ≤ qn) → (∀ i9, i9 < 640 → rb f i9 = pB (liv qp qt qm qf ql qx mk (fun t9 m9 y9 => sOnly nb fr tt st nu sn s t9 m9 y9) k p (1500 + ((i9 : Nat) : Int)))) → (∀ i9, i9 < 640 → rb g i9 = pB (liv qp qt qm qf ql qx mk (fun t9 m9 y9 => sPos nb fr tt st nu s t9 m9 y9) k p (1500 + ((i9 : Nat) : Int)))) → (∃ b9, b9 < 64 ∧ b = nI b9 ∧ ∀ j9, j9 < 6 → b9.testBit j9 = pB (src qp qs qt qm qf ql qx mk (fun t9 m9 y9 => sOnly nb fr tt st nu sn s t9 m9 y9) k p j9)) → ∀ (H : Heap) (locs : List Loc), va_P (dC, dI) vwCl [(ad 22, .inr (7, [.ref (ad 3), .ref (ad 9), .ref (ad 14), .ref (ad 23), .ref (ad 24), .int b])), (ad 23, .inl (cy 1, 10, .inr (.inl f))), (ad 24, .inl (cy 1, 10, .inr (.inl g))), (ad 9, .inr (3, [.ref (ad 10), .ref (ad 11), .ref (ad 12), .ref (ad 13), .int (nI pn)])), (ad 13, .inl (cy 0, 30, .inl mk)), (ad 14, .inr (2, [.ref (ad 15), .ref (ad 16), .ref (ad 17), .ref (ad 18), .ref (ad 19), .ref (ad 20), .ref (ad 21), .int (nI qn)])), (ad 15, .inl (cy 0, 100, .inl qp)), (ad 16, .inl (cy 0, 100, .inl qs)), (ad 17, .inl (cy 0, 100, .inl qt)), (ad 18, .inl (cy 0, 100, .inl qm)), (ad 19, .inl (cy 0, 100, .inl qf)), (ad 20, .inl (cy 0, 100, .inl ql)), (ad 21, .inl (cy 2, 100, .inl qx)), (ad 3, .inr (6, [.ref (ad 4), .ref (ad 5), .ref (ad 6), .ref (ad 7), .ref (ad 8), .int (nI sn)])), (ad 4, .inl (cy 0, 40, .inl nb)), (ad 5, .inl (cy 0, 320, .inl fr)), (ad 6, .inl (cy 0, 320, .inl tt)), (ad 7, .inl (cy 0, 320, .inl st)), (ad 8, .inl (cy 0, 320, .inl nu))] H → va_D A [(ad 22, .inr (7, [.ref (ad 3), .ref (ad 9), .ref (ad 14), .ref (ad 23), .ref (ad 24), .int b])), (ad 23, .inl (cy 1, 10, .inr (.inl f))), (ad 24, .inl (cy 1, 10, .inr (.inl g))), (ad 9, .inr (3, [.ref (ad 10), .ref (ad 11), .ref (ad 12), .ref (ad 13), .int (nI pn)])), (ad 13, .inl (cy 0, 30, .inl mk)), (ad 14, .inr (2, [.ref (ad 15), .ref (ad 16), .ref (ad 17), .ref (ad 18), .ref (ad 19), .ref (ad 20), .ref (ad 21), .int (nI qn)])), (ad 15, .inl (cy 0, 100, .inl qp)), (ad 16, .inl (cy 0, 100, .inl qs)), (ad 17, .inl (cy 0, 100, .inl qt)), (ad 18, .inl (cy 0, 100, .inl qm)), (ad 19, .inl (cy 0, 100, .inl qf)), (ad 20, .inl (cy 0, 100, .inl ql)), (ad 21, .inl (cy 2, 100, .inl qx)), (ad 3, .inr (6, [.ref (ad 4), .ref (ad 5), .ref (ad 6), .ref (ad 7), .ref (ad 8), .int (nI sn)])), (ad 4, .inl (cy 0, 40, .inl nb)), (ad 5, .inl (cy 0, 320, .inl fr)), (ad 6, .inl (cy 0, 320, .inl tt)), (ad 7, .inl (cy 0, 320, .inl st)), (ad 8, .inl (cy 0, 320, .inl nu))] → va_S A ss.heap H locs → ∀ (ls : Array Slot), lv_has ls 4 [(0, .ref (ad 22)), (1, .int (nI p)), (2, .int (nI s)), (3, .int (nI k))] → W pp l ee { frames := 4, cells := 0, slots := 0, locals := 113 } ss mm (List.toArray [Value.ref (ad 22), Value.int (nI p), Value.int (nI s)]) below meth cc0 H locs 0 0 Q (F0 mm 35 ls []) := by
          intro n9
          induction n9 with
          | zero => intro k f g b hm9; exact absurd hm9 (Nat.not_lt_zero _)
          | succ n9 ih35 =>
            intro k f g b hm35 hk9 hf1 hf2 hf3
            intro H locs hP hD hS
            intro ls hl
            have hqn := hq.1
            have hpn := hq.2.1
            have hs40 := hall.1
            obtain ⟨bn, hbn, hsb, hsb2⟩ := hf3
            refine lv_iload_n hx hb dX7_study_35 rfl (lv_at hl 3 rfl) ?_
            refine lv_aload_n hx hb dX7_study_36 rfl (lv_at hl 0 rfl) ?_
            refine va_get (D := (dC, dI)) (ci := 7) (v := .ref (ad 14)) (C := RX7) (T := TX7) (N := 6) hx hb hts hiX7 hown hK hP 0 rfl rfl 2 (by decide) hL1 (fun _ h9 => h9) rfl dX7_study_37 ?_
            refine va_get (D := (dC, dI)) (ci := 2) (v := .int (nI qn)) (C := RX2) (T := TX2) (N := 8) hx hb hts hiX2 hown hK hP 5 rfl rfl 7 (by decide) hL2 (fun _ h9 => h9) rfl dX7_study_40 ?_
            refine bw_icmp_ge (tgt := 90) (a := ((k : Nat) : Int)) (b := ((qn : Nat) : Int)) hx hb dX7_study_43 (by decide) (nI_toInt (by omega)) (nI_toInt (by omega)) (fun c_2 => ?_) (fun c_2 => ?_)
            · skip
              subst hQ
              have hP9 : va_P (dC, dI) vwCl [(ad 22, .inr (7, [.ref (ad 3), .ref (ad 9), .ref (ad 14), .ref (ad 23), .ref (ad 24), .int b])), (ad 23, .inl (cy 1, 10, .inr (.inl f))), (ad 24, .inl (cy 1, 10, .inr (.inl g))), (ad 9, .inr (3, [.ref (ad 10), .ref (ad 11), .ref (ad 12), .ref (ad 13), .int (nI pn)])), (ad 13, .inl (cy 0, 30, .inl mk)), (ad 14, .inr (2, [.ref (ad 15), .ref (ad 16), .ref (ad 17), .ref (ad 18), .ref (ad 19), .ref (ad 20), .ref (ad 21), .int (nI qn)])), (ad 15, .inl (cy 0, 100, .inl qp)), (ad 16, .inl (cy 0, 100, .inl qs)), (ad 17, .inl (cy 0, 100, .inl qt)), (ad 18, .inl (cy 0, 100, .inl qm)), (ad 19, .inl (cy 0, 100, .inl qf)), (ad 20, .inl (cy 0, 100, .inl ql)), (ad 21, .inl (cy 2, 100, .inl qx)), (ad 3, .inr (6, [.ref (ad 4), .ref (ad 5), .ref (ad 6), .ref (ad 7), .ref (ad 8), .int (nI sn)])), (ad 4, .inl (cy 0, 40, .inl nb)), (ad 5, .inl (cy 0, 320, .inl fr)), (ad 6, .inl (cy 0, 320, .inl tt)), (ad 7, .inl (cy 0, 320, .inl st)), (ad 8, .inl (cy 0, 320, .inl nu))] H := hP.sub [0, 1, 2, 3, 4, 5, 6, 7, 8, 9, 10, 11, 12, 13, 14, 15, 16, 17, 18] rfl
              have hD9 : va_D A [(ad 22, .inr (7, [.ref (ad 3), .ref (ad 9), .ref (ad 14), .ref (ad 23), .ref (ad 24), .int b])), (ad 23, .inl (cy 1, 10, .inr (.inl f))), (ad 24, .inl (cy 1, 10, .inr (.inl g))), (ad 9, .inr (3, [.ref (ad 10), .ref (ad 11), .ref (ad 12), .ref (ad 13), .int (nI pn)])), (ad 13, .inl (cy 0, 30, .inl mk)), (ad 14, .inr (2, [.ref (ad 15), .ref (ad 16), .ref (ad 17), .ref (ad 18), .ref (ad 19), .ref (ad 20), .ref (ad 21), .int (nI qn)])), (ad 15, .inl (cy 0, 100, .inl qp)), (ad 16, .inl (cy 0, 100, .inl qs)), (ad 17, .inl (cy 0, 100, .inl qt)), (ad 18, .inl (cy 0, 100, .inl qm)), (ad 19, .inl (cy 0, 100, .inl qf)), (ad 20, .inl (cy 0, 100, .inl ql)), (ad 21, .inl (cy 2, 100, .inl qx)), (ad 3, .inr (6, [.ref (ad 4), .ref (ad 5), .ref (ad 6), .ref (ad 7), .ref (ad 8), .int (nI sn)])), (ad 4, .inl (cy 0, 40, .inl nb)), (ad 5, .inl (cy 0, 320, .inl fr)), (ad 6, .inl (cy 0, 320, .inl tt)), (ad 7, .inl (cy 0, 320, .inl st)), (ad 8, .inl (cy 0, 320, .inl nu))] := hD.sub [0, 1, 2, 3, 4, 5, 6, 7, 8, 9, 10, 11, 12, 13, 14, 15, 16, 17, 18] (by decide) rfl
              have hpost : (∀ i9, i9 < 640 → rb f i9 = pB (liv qp qt qm qf ql qx mk (fun t9 m9 y9 => sOnly nb fr tt st nu sn s t9 m9 y9) qn p (1500 + ((i9 : Nat) : Int)))) ∧ (∀ i9, i9 < 640 → rb g i9 = pB (liv qp qt qm qf ql qx mk (fun t9 m9 y9 => sPos nb fr tt st nu s t9 m9 y9) qn p (1500 + ((i9 : Nat) : Int)))) ∧ (∃ b9, b9 < 64 ∧ b = nI b9 ∧ ∀ j9, j9 < 6 → b9.testBit j9 = pB (src qp qs qt qm qf ql qx mk (fun t9 m9 y9 => sOnly nb fr tt st nu sn s t9 m9 y9) qn p j9)) := by
                have e9 : k = qn := by omega
                subst e9
                exact ⟨hf1, hf2, bn, hbn, hsb, hsb2⟩
              exact W.vret hx hb hr (fun t9 ht hW => ⟨⟨(b, f, g), rfl, hpost, by rw [ht]; exact hP9, va_K.moved hW.alike hK, hD9⟩, hS.F ht⟩) hS.2.2 dX7_study_90
            · skip
              refine lv_aload_n hx hb dX7_study_46 rfl (lv_at hl 0 rfl) ?_
              refine va_get (D := (dC, dI)) (ci := 7) (v := .ref (ad 14)) (C := RX7) (T := TX7) (N := 6) hx hb hts hiX7 hown hK hP 0 rfl rfl 2 (by decide) hL1 (fun _ h9 => h9) rfl dX7_study_47 ?_
              refine va_get (D := (dC, dI)) (ci := 2) (v := .ref (ad 21)) (C := RX2) (T := TX2) (N := 8) hx hb hts hiX2 hown hK hP 5 rfl rfl 6 (by decide) hL3 (fun _ h9 => h9) rfl dX7_study_50 ?_
              refine lv_iload_n hx hb dX7_study_53 rfl (lv_at hl 3 rfl) ?_
              refine bw_zald hx hb hK hP 12 2 rfl rfl (j := k) (nI_toInt (by omega)) (by omega) dX7_study_54 ?_
              refine bw_if_ne (tgt := 84) (a := (qx k).toInt) hx hb dX7_study_55 (by decide) rfl (fun c_f => ?_) (fun c_f => ?_)
              · skip
                refine lv_iinc (v := nI (k + 1)) (lv' := [(3, .int (nI (k + 1))), (0, .ref (ad 22)), (1, .int (nI p)), (2, .int (nI s))]) hx hb dX7_study_84 hl (k := 3) rfl (show nI k + Int32.ofInt 1 = nI (k + 1) from nI_add k 1) (by decide) rfl (fun ls hl => ?_)
                refine lv_goto (tgt := 35) hx hb dX7_study_87 (by decide) ?_
                have hI_hf1 : (∀ i9, i9 < 640 → rb f i9 = pB (liv qp qt qm qf ql qx mk (fun t9 m9 y9 => sOnly nb fr tt st nu sn s t9 m9 y9) (k + 1) p (1500 + ((i9 : Nat) : Int)))) := by
                  intro i9 h9
                  rw [propext liv_s, pB_or]
                  first
                    | (rw [hpa.1 i9 h9, hf1 i9 h9]
                       exact or_take ⟨fun q => ⟨c_f, c_o, q⟩, fun q => q.2.2⟩)
                    | exact (hf1 i9 h9).trans (or_skip (fun q => c_f q.1))
                    | exact (hf1 i9 h9).trans (or_skip (fun q => c_o q.2.1))
                have hI_hf2 : (∀ i9, i9 < 640 → rb g i9 = pB (liv qp qt qm qf ql qx mk (fun t9 m9 y9 => sPos nb fr tt st nu s t9 m9 y9) (k + 1) p (1500 + ((i9 : Nat) : Int)))) := by
                  intro i9 h9
                  rw [propext liv_s, pB_or]
                  first
                    | (rw [hpa.2.1 i9 h9, hf2 i9 h9]
                       exact or_take ⟨fun q => ⟨c_f, c_o, q⟩, fun q => q.2.2⟩)
                    | exact (hf2 i9 h9).trans (or_skip (fun q => c_f q.1))
                    | exact (hf2 i9 h9).trans (or_skip (fun q => c_o q.2.1))
                have hI_hf3 : (∃ b9, b9 < 64 ∧ b = nI b9 ∧ ∀ j9, j9 < 6 → b9.testBit j9 = pB (src qp qs qt qm qf ql qx mk (fun t9 m9 y9 => sOnly nb fr tt st nu sn s t9 m9 y9) (k + 1) p j9)) := by
                  first
                    | (obtain ⟨b9, g1, g2, g3⟩ := hpa.2.2
                       refine ⟨b9, g1, g2, fun j9 h9 => ?_⟩
                       rw [propext src_s, pB_or, g3 j9 h9, hsb2 j9 h9]
                       exact or_take ⟨fun q => ⟨c_f, c_o, q.1, q.2⟩, fun q => ⟨q.2.2.1, q.2.2.2⟩⟩)
                    | exact ⟨bn, hbn, hsb, fun j9 h9 => by rw [propext src_s, pB_or]; exact (hsb2 j9 h9).trans (or_skip (fun q => c_f q.1))⟩
                    | exact ⟨bn, hbn, hsb, fun j9 h9 => by rw [propext src_s, pB_or]; exact (hsb2 j9 h9).trans (or_skip (fun q => c_o q.2.1))⟩
                exact ih35 (k + 1) f g b (by omega) (by first | assumption | omega) hI_hf1 hI_hf2 hI_hf3 H locs hP hD hS ls (lv_sub hl [1, 2, 3, 0] rfl)
              · skip
                refine lv_aload_n hx hb dX7_study_58 rfl (lv_at hl 0 rfl) ?_
                refine va_get (D := (dC, dI)) (ci := 7) (v := .ref (ad 9)) (C := RX7) (T := TX7) (N := 6) hx hb hts hiX7 hown hK hP 0 rfl rfl 1 (by decide) hL4 (fun _ h9 => h9) rfl dX7_study_59 ?_
                have hq1 := hq.2.2.2 k (by omega)
                refine lv_aload_n hx hb dX7_study_62 rfl (lv_at hl 0 rfl) ?_
                refine va_get (D := (dC, dI)) (ci := 7) (v := .ref (ad 14)) (C := RX7) (T := TX7) (N := 6) hx hb hts hiX7 hown hK hP 0 rfl rfl 2 (by decide) hL1 (fun _ h9 => h9) rfl dX7_study_63 ?_
                refine va_get (D := (dC, dI)) (ci := 2) (v := .ref (ad 15)) (C := RX2) (T := TX2) (N := 8) hx hb hts hiX2 hown hK hP 5 rfl rfl 0 (by decide) hL5 (fun _ h9 => h9) rfl dX7_study_66 ?_
                refine lv_iload_n hx hb dX7_study_69 rfl (lv_at hl 3 rfl) ?_
                refine bw_iald hx hb hK hP 6 0 rfl rfl (j := k) (nI_toInt (by omega)) (by omega) dX7_study_70 ?_
                refine bw_re (show (qp k) = nI ((qp k).toInt.toNat) from nI_back (by have := hq.2.2.2 k (by omega); omega)) ?_
                refine lv_iload_n hx hb dX7_study_71 rfl (lv_at hl 1 rfl) ?_
                have hPc : va_P (dC, dI) vwCl [(ad 9, .inr (3, [.ref (ad 10), .ref (ad 11), .ref (ad 12), .ref (ad 13), .int (nI pn)])), (ad 13, .inl (cy 0, 30, .inl mk))] H := hP.sub [3, 4] rfl
                refine vp_callSi (va_Run.run (va_runV (As := [.int (nI ((qp k).toInt.toNat)), .int (nI p)]) (rest := []) ⟨hx, hb, hml, hown, hts⟩ (c_X3_areOne l dC dI cy ad pn mk ((qp k).toInt.toNat) p (by first | assumption | omega) (by first | assumption | omega)) (cwV 2 hts gX7_study_X3_areOne rfl rfl rfl (by decide +kernel) ⟨Nat.le_of_ble_eq_true rfl, Nat.le_of_ble_eq_true rfl⟩) ⟨fun a U g mk q => by obtain ⟨q0, qP, qK⟩ := q; exact ⟨q0, qP, va_K.moved (u := U) (U := U.calling g mk a) (Vm.Alike.refl U.vm) qK⟩, va_recv hK hPc (ci := 3) (q0 := 0) rfl rfl, fun U hU hW => ⟨rfl, by rw [hU]; exact hPc, va_K.moved hW.alike hK⟩⟩ rfl rfl hl.1 rfl (lv_room (Nat.le_of_ble_eq_true rfl)) dX7_study_72 ⟨Nat.le_of_ble_eq_true rfl, Nat.le_of_ble_eq_true rfl⟩)) (fun r_3 hr_3 => ?_)
                refine bw_ifeqB (tgt := 84) hx hb dX7_study_75 (by decide) hr_3 (fun c_o => ?_) (fun c_o => ?_)
                · skip
                  refine lv_iinc (v := nI (k + 1)) (lv' := [(3, .int (nI (k + 1))), (0, .ref (ad 22)), (1, .int (nI p)), (2, .int (nI s))]) hx hb dX7_study_84 hl (k := 3) rfl (show nI k + Int32.ofInt 1 = nI (k + 1) from nI_add k 1) (by decide) rfl (fun ls hl => ?_)
                  refine lv_goto (tgt := 35) hx hb dX7_study_87 (by decide) ?_
                  have hI_hf1 : (∀ i9, i9 < 640 → rb f i9 = pB (liv qp qt qm qf ql qx mk (fun t9 m9 y9 => sOnly nb fr tt st nu sn s t9 m9 y9) (k + 1) p (1500 + ((i9 : Nat) : Int)))) := by
                    intro i9 h9
                    rw [propext liv_s, pB_or]
                    first
                      | (rw [hpa.1 i9 h9, hf1 i9 h9]
                         exact or_take ⟨fun q => ⟨c_f, c_o, q⟩, fun q => q.2.2⟩)
                      | exact (hf1 i9 h9).trans (or_skip (fun q => c_f q.1))
                      | exact (hf1 i9 h9).trans (or_skip (fun q => c_o q.2.1))
                  have hI_hf2 : (∀ i9, i9 < 640 → rb g i9 = pB (liv qp qt qm qf ql qx mk (fun t9 m9 y9 => sPos nb fr tt st nu s t9 m9 y9) (k + 1) p (1500 + ((i9 : Nat) : Int)))) := by
                    intro i9 h9
                    rw [propext liv_s, pB_or]
                    first
                      | (rw [hpa.2.1 i9 h9, hf2 i9 h9]
                         exact or_take ⟨fun q => ⟨c_f, c_o, q⟩, fun q => q.2.2⟩)
                      | exact (hf2 i9 h9).trans (or_skip (fun q => c_f q.1))
                      | exact (hf2 i9 h9).trans (or_skip (fun q => c_o q.2.1))
                  have hI_hf3 : (∃ b9, b9 < 64 ∧ b = nI b9 ∧ ∀ j9, j9 < 6 → b9.testBit j9 = pB (src qp qs qt qm qf ql qx mk (fun t9 m9 y9 => sOnly nb fr tt st nu sn s t9 m9 y9) (k + 1) p j9)) := by
                    first
                      | (obtain ⟨b9, g1, g2, g3⟩ := hpa.2.2
                         refine ⟨b9, g1, g2, fun j9 h9 => ?_⟩
                         rw [propext src_s, pB_or, g3 j9 h9, hsb2 j9 h9]
                         exact or_take ⟨fun q => ⟨c_f, c_o, q.1, q.2⟩, fun q => ⟨q.2.2.1, q.2.2.2⟩⟩)
                      | exact ⟨bn, hbn, hsb, fun j9 h9 => by rw [propext src_s, pB_or]; exact (hsb2 j9 h9).trans (or_skip (fun q => c_f q.1))⟩
                      | exact ⟨bn, hbn, hsb, fun j9 h9 => by rw [propext src_s, pB_or]; exact (hsb2 j9 h9).trans (or_skip (fun q => c_o q.2.1))⟩
                  exact ih35 (k + 1) f g b (by omega) (by first | assumption | omega) hI_hf1 hI_hf2 hI_hf3 H locs hP hD hS ls (lv_sub hl [1, 2, 3, 0] rfl)
                · skip
                  refine lv_aload_n hx hb dX7_study_78 rfl (lv_at hl 0 rfl) ?_
                  refine lv_iload_n hx hb dX7_study_79 rfl (lv_at hl 3 rfl) ?_
                  refine lv_iload_n hx hb dX7_study_80 rfl (lv_at hl 2 rfl) ?_
                  have hPc : va_P (dC, dI) vwCl [(ad 22, .inr (7, [.ref (ad 3), .ref (ad 9), .ref (ad 14), .ref (ad 23), .ref (ad 24), .int b])), (ad 23, .inl (cy 1, 10, .inr (.inl f))), (ad 24, .inl (cy 1, 10, .inr (.inl g))), (ad 14, .inr (2, [.ref (ad 15), .ref (ad 16), .ref (ad 17), .ref (ad 18), .ref (ad 19), .ref (ad 20), .ref (ad 21), .int (nI qn)])), (ad 15, .inl (cy 0, 100, .inl qp)), (ad 16, .inl (cy 0, 100, .inl qs)), (ad 17, .inl (cy 0, 100, .inl qt)), (ad 18, .inl (cy 0, 100, .inl qm)), (ad 19, .inl (cy 0, 100, .inl qf)), (ad 20, .inl (cy 0, 100, .inl ql)), (ad 21, .inl (cy 2, 100, .inl qx)), (ad 3, .inr (6, [.ref (ad 4), .ref (ad 5), .ref (ad 6), .ref (ad 7), .ref (ad 8), .int (nI sn)])), (ad 4, .inl (cy 0, 40, .inl nb)), (ad 5, .inl (cy 0, 320, .inl fr)), (ad 6, .inl (cy 0, 320, .inl tt)), (ad 7, .inl (cy 0, 320, .inl st)), (ad 8, .inl (cy 0, 320, .inl nu))] H := hP.sub [0, 1, 2, 5, 6, 7, 8, 9, 10, 11, 12, 13, 14, 15, 16, 17, 18] rfl
                  have hDc : va_D A [(ad 22, .inr (7, [.ref (ad 3), .ref (ad 9), .ref (ad 14), .ref (ad 23), .ref (ad 24), .int b])), (ad 23, .inl (cy 1, 10, .inr (.inl f))), (ad 24, .inl (cy 1, 10, .inr (.inl g))), (ad 14, .inr (2, [.ref (ad 15), .ref (ad 16), .ref (ad 17), .ref (ad 18), .ref (ad 19), .ref (ad 20), .ref (ad 21), .int (nI qn)])), (ad 15, .inl (cy 0, 100, .inl qp)), (ad 16, .inl (cy 0, 100, .inl qs)), (ad 17, .inl (cy 0, 100, .inl qt)), (ad 18, .inl (cy 0, 100, .inl qm)), (ad 19, .inl (cy 0, 100, .inl qf)), (ad 20, .inl (cy 0, 100, .inl ql)), (ad 21, .inl (cy 2, 100, .inl qx)), (ad 3, .inr (6, [.ref (ad 4), .ref (ad 5), .ref (ad 6), .ref (ad 7), .ref (ad 8), .int (nI sn)])), (ad 4, .inl (cy 0, 40, .inl nb)), (ad 5, .inl (cy 0, 320, .inl fr)), (ad 6, .inl (cy 0, 320, .inl tt)), (ad 7, .inl (cy 0, 320, .inl st)), (ad 8, .inl (cy 0, 320, .inl nu))] := hD.sub [0, 1, 2, 5, 6, 7, 8, 9, 10, 11, 12, 13, 14, 15, 16, 17, 18] (by decide) rfl
                  have hFc := va_free (wc := [(ad 22, .inr (7, [.ref (ad 3), .ref (ad 9), .ref (ad 14), .ref (ad 23), .ref (ad 24), .int b])), (ad 23, .inl (cy 1, 10, .inr (.inl f))), (ad 24, .inl (cy 1, 10, .inr (.inl g))), (ad 14, .inr (2, [.ref (ad 15), .ref (ad 16), .ref (ad 17), .ref (ad 18), .ref (ad 19), .ref (ad 20), .ref (ad 21), .int (nI qn)])), (ad 15, .inl (cy 0, 100, .inl qp)), (ad 16, .inl (cy 0, 100, .inl qs)), (ad 17, .inl (cy 0, 100, .inl qt)), (ad 18, .inl (cy 0, 100, .inl qm)), (ad 19, .inl (cy 0, 100, .inl qf)), (ad 20, .inl (cy 0, 100, .inl ql)), (ad 21, .inl (cy 2, 100, .inl qx)), (ad 3, .inr (6, [.ref (ad 4), .ref (ad 5), .ref (ad 6), .ref (ad 7), .ref (ad 8), .int (nI sn)])), (ad 4, .inl (cy 0, 40, .inl nb)), (ad 5, .inl (cy 0, 320, .inl fr)), (ad 6, .inl (cy 0, 320, .inl tt)), (ad 7, .inl (cy 0, 320, .inl st)), (ad 8, .inl (cy 0, 320, .inl nu))]) hD hS hA [0, 1, 2, 5, 6, 7, 8, 9, 10, 11, 12, 13, 14, 15, 16, 17, 18] rfl
                  refine va_callv (va_runV (As := [.int (nI k), .int (nI s)]) (rest := []) ⟨hx, hb, hml, hown, hts⟩ (c_X7_addPaper l dC dI cy ad b f g pn qn qp qs qt qm qf ql qx sn nb fr tt st nu k s bn H.size (by first | assumption | omega) (by first | assumption | omega) (by first | assumption | omega) (by first | assumption | omega) (by first | assumption | omega) (by first | assumption | omega)) (cwV 2 hts gX7_study_X7_addPaper rfl rfl rfl (by decide +kernel) ⟨Nat.le_of_ble_eq_true rfl, Nat.le_of_ble_eq_true rfl⟩) ⟨fun a U g mk q => by obtain ⟨q0, q1, qP, qK, qD⟩ := q; exact ⟨q0, q1, qP, va_K.moved (u := U) (U := U.calling g mk a) (Vm.Alike.refl U.vm) qK, qD⟩, va_recv hK hPc (ci := 7) (q0 := 0) rfl rfl, fun U hU hW => ⟨rfl, by rw [hU], by rw [hU]; exact hPc, va_K.moved hW.alike hK, hDc.weaken (fun _ _ _ _ => trivial)⟩⟩ rfl rfl hl.1 rfl (lv_room (Nat.le_of_ble_eq_true rfl)) dX7_study_81 ⟨Nat.le_of_ble_eq_true rfl, Nat.le_of_ble_eq_true rfl⟩) hS (fun q _ h => hFc q h) hFc (fun u t9 H1 locs ht hvm hw hB hz1 hk1 hS => ?_)
                  obtain ⟨sb2_4, su2_5, my2_6⟩ := u
                  have hpa := hw
                  try dsimp only at hpa
                  obtain ⟨hP1, hK1, hD1⟩ := hB
                  rw [ht] at hP1
                  obtain ⟨hP, hD⟩ := va_join (wr := [(ad 9, .inr (3, [.ref (ad 10), .ref (ad 11), .ref (ad 12), .ref (ad 13), .int (nI pn)])), (ad 13, .inl (cy 0, 30, .inl mk))]) (w1 := [(ad 22, .inr (7, [.ref (ad 3), .ref (ad 9), .ref (ad 14), .ref (ad 23), .ref (ad 24), .int sb2_4])), (ad 23, .inl (cy 1, 10, .inr (.inl su2_5))), (ad 24, .inl (cy 1, 10, .inr (.inl my2_6))), (ad 14, .inr (2, [.ref (ad 15), .ref (ad 16), .ref (ad 17), .ref (ad 18), .ref (ad 19), .ref (ad 20), .ref (ad 21), .int (nI qn)])), (ad 15, .inl (cy 0, 100, .inl qp)), (ad 16, .inl (cy 0, 100, .inl qs)), (ad 17, .inl (cy 0, 100, .inl qt)), (ad 18, .inl (cy 0, 100, .inl qm)), (ad 19, .inl (cy 0, 100, .inl qf)), (ad 20, .inl (cy 0, 100, .inl ql)), (ad 21, .inl (cy 2, 100, .inl qx)), (ad 3, .inr (6, [.ref (ad 4), .ref (ad 5), .ref (ad 6), .ref (ad 7), .ref (ad 8), .int (nI sn)])), (ad 4, .inl (cy 0, 40, .inl nb)), (ad 5, .inl (cy 0, 320, .inl fr)), (ad 6, .inl (cy 0, 320, .inl tt)), (ad 7, .inl (cy 0, 320, .inl st)), (ad 8, .inl (cy 0, 320, .inl nu))]) hP hD [0, 1, 2, 5, 6, 7, 8, 9, 10, 11, 12, 13, 14, 15, 16, 17, 18] [3, 4] rfl rfl (by decide) (by decide) hk1 hFc hP1 hD1
                  generalize H1 = H at hP hS ⊢
                  have hP : va_P (dC, dI) vwCl [(ad 22, .inr (7, [.ref (ad 3), .ref (ad 9), .ref (ad 14), .ref (ad 23), .ref (ad 24), .int sb2_4])), (ad 23, .inl (cy 1, 10, .inr (.inl su2_5))), (ad 24, .inl (cy 1, 10, .inr (.inl my2_6))), (ad 9, .inr (3, [.ref (ad 10), .ref (ad 11), .ref (ad 12), .ref (ad 13), .int (nI pn)])), (ad 13, .inl (cy 0, 30, .inl mk)), (ad 14, .inr (2, [.ref (ad 15), .ref (ad 16), .ref (ad 17), .ref (ad 18), .ref (ad 19), .ref (ad 20), .ref (ad 21), .int (nI qn)])), (ad 15, .inl (cy 0, 100, .inl qp)), (ad 16, .inl (cy 0, 100, .inl qs)), (ad 17, .inl (cy 0, 100, .inl qt)), (ad 18, .inl (cy 0, 100, .inl qm)), (ad 19, .inl (cy 0, 100, .inl qf)), (ad 20, .inl (cy 0, 100, .inl ql)), (ad 21, .inl (cy 2, 100, .inl qx)), (ad 3, .inr (6, [.ref (ad 4), .ref (ad 5), .ref (ad 6), .ref (ad 7), .ref (ad 8), .int (nI sn)])), (ad 4, .inl (cy 0, 40, .inl nb)), (ad 5, .inl (cy 0, 320, .inl fr)), (ad 6, .inl (cy 0, 320, .inl tt)), (ad 7, .inl (cy 0, 320, .inl st)), (ad 8, .inl (cy 0, 320, .inl nu))] H := hP.sub [2, 3, 4, 0, 1, 5, 6, 7, 8, 9, 10, 11, 12, 13, 14, 15, 16, 17, 18] rfl
                  have hD : va_D A [(ad 22, .inr (7, [.ref (ad 3), .ref (ad 9), .ref (ad 14), .ref (ad 23), .ref (ad 24), .int sb2_4])), (ad 23, .inl (cy 1, 10, .inr (.inl su2_5))), (ad 24, .inl (cy 1, 10, .inr (.inl my2_6))), (ad 9, .inr (3, [.ref (ad 10), .ref (ad 11), .ref (ad 12), .ref (ad 13), .int (nI pn)])), (ad 13, .inl (cy 0, 30, .inl mk)), (ad 14, .inr (2, [.ref (ad 15), .ref (ad 16), .ref (ad 17), .ref (ad 18), .ref (ad 19), .ref (ad 20), .ref (ad 21), .int (nI qn)])), (ad 15, .inl (cy 0, 100, .inl qp)), (ad 16, .inl (cy 0, 100, .inl qs)), (ad 17, .inl (cy 0, 100, .inl qt)), (ad 18, .inl (cy 0, 100, .inl qm)), (ad 19, .inl (cy 0, 100, .inl qf)), (ad 20, .inl (cy 0, 100, .inl ql)), (ad 21, .inl (cy 2, 100, .inl qx)), (ad 3, .inr (6, [.ref (ad 4), .ref (ad 5), .ref (ad 6), .ref (ad 7), .ref (ad 8), .int (nI sn)])), (ad 4, .inl (cy 0, 40, .inl nb)), (ad 5, .inl (cy 0, 320, .inl fr)), (ad 6, .inl (cy 0, 320, .inl tt)), (ad 7, .inl (cy 0, 320, .inl st)), (ad 8, .inl (cy 0, 320, .inl nu))] := hD.sub [2, 3, 4, 0, 1, 5, 6, 7, 8, 9, 10, 11, 12, 13, 14, 15, 16, 17, 18] (by decide) rfl
                  refine lv_iinc (v := nI (k + 1)) (lv' := [(3, .int (nI (k + 1))), (0, .ref (ad 22)), (1, .int (nI p)), (2, .int (nI s))]) hx hb dX7_study_84 hl (k := 3) rfl (show nI k + Int32.ofInt 1 = nI (k + 1) from nI_add k 1) (by decide) rfl (fun ls hl => ?_)
                  refine lv_goto (tgt := 35) hx hb dX7_study_87 (by decide) ?_
                  have hI_hf1 : (∀ i9, i9 < 640 → rb su2_5 i9 = pB (liv qp qt qm qf ql qx mk (fun t9 m9 y9 => sOnly nb fr tt st nu sn s t9 m9 y9) (k + 1) p (1500 + ((i9 : Nat) : Int)))) := by
                    intro i9 h9
                    rw [propext liv_s, pB_or]
                    first
                      | (rw [hpa.1 i9 h9, hf1 i9 h9]
                         exact or_take ⟨fun q => ⟨c_f, c_o, q⟩, fun q => q.2.2⟩)
                      | exact (hf1 i9 h9).trans (or_skip (fun q => c_f q.1))
                      | exact (hf1 i9 h9).trans (or_skip (fun q => c_o q.2.1))
                  have hI_hf2 : (∀ i9, i9 < 640 → rb my2_6 i9 = pB (liv qp qt qm qf ql qx mk (fun t9 m9 y9 => sPos nb fr tt st nu s t9 m9 y9) (k + 1) p (1500 + ((i9 : Nat) : Int)))) := by
                    intro i9 h9
                    rw [propext liv_s, pB_or]
                    first
                      | (rw [hpa.2.1 i9 h9, hf2 i9 h9]
                         exact or_take ⟨fun q => ⟨c_f, c_o, q⟩, fun q => q.2.2⟩)
                      | exact (hf2 i9 h9).trans (or_skip (fun q => c_f q.1))
                      | exact (hf2 i9 h9).trans (or_skip (fun q => c_o q.2.1))
                  have hI_hf3 : (∃ b9, b9 < 64 ∧ sb2_4 = nI b9 ∧ ∀ j9, j9 < 6 → b9.testBit j9 = pB (src qp qs qt qm qf ql qx mk (fun t9 m9 y9 => sOnly nb fr tt st nu sn s t9 m9 y9) (k + 1) p j9)) := by
                    first
                      | (obtain ⟨b9, g1, g2, g3⟩ := hpa.2.2
                         refine ⟨b9, g1, g2, fun j9 h9 => ?_⟩
                         rw [propext src_s, pB_or, g3 j9 h9, hsb2 j9 h9]
                         exact or_take ⟨fun q => ⟨c_f, c_o, q.1, q.2⟩, fun q => ⟨q.2.2.1, q.2.2.2⟩⟩)
                      | exact ⟨bn, hbn, hsb, fun j9 h9 => by rw [propext src_s, pB_or]; exact (hsb2 j9 h9).trans (or_skip (fun q => c_f q.1))⟩
                      | exact ⟨bn, hbn, hsb, fun j9 h9 => by rw [propext src_s, pB_or]; exact (hsb2 j9 h9).trans (or_skip (fun q => c_o q.2.1))⟩
                  exact ih35 (k + 1) su2_5 my2_6 sb2_4 (by omega) (by first | assumption | omega) hI_hf1 hI_hf2 hI_hf3 H locs hP hD hS ls (lv_sub hl [1, 2, 3, 0] rfl)
        have hI_hf1 : (∀ i9, i9 < 640 → rb f i9 = pB (liv qp qt qm qf ql qx mk (fun t9 m9 y9 => sOnly nb fr tt st nu sn s t9 m9 y9) 0 p (1500 + ((i9 : Nat) : Int)))) := by
          have e9 : i = 10 := by omega
          rw [e9] at hf
          intro i9 h9
          rw [rb_zero (fun k hk => (hf k hk).1) i9 h9, pB_f liv_0]
        have hI_hf2 : (∀ i9, i9 < 640 → rb g i9 = pB (liv qp qt qm qf ql qx mk (fun t9 m9 y9 => sPos nb fr tt st nu s t9 m9 y9) 0 p (1500 + ((i9 : Nat) : Int)))) := by
          have e9 : i = 10 := by omega
          rw [e9] at hf
          intro i9 h9
          rw [rb_zero (fun k hk => (hf k hk).2) i9 h9, pB_f liv_0]
        have hI_hf3 : (∃ b9, b9 < 64 ∧ 0 = nI b9 ∧ ∀ j9, j9 < 6 → b9.testBit j9 = pB (src qp qs qt qm qf ql qx mk (fun t9 m9 y9 => sOnly nb fr tt st nu sn s t9 m9 y9) 0 p j9)) := by
          exact ⟨0, by omega, rfl, fun j9 _ => by rw [pB_f src_0, Nat.zero_testBit]⟩
        exact L_35 ((qn - 0) + 1) 0 f g 0 (by omega) (by first | assumption | omega) hI_hf1 hI_hf2 hI_hf3 H locs hP hD hS ls (lv_sub hl [1, 2, 3, 0] rfl)
      · skip
        refine lv_aload_n hx hb dX7_study_8 rfl (lv_at hl 0 rfl) ?_
        refine va_get (D := (dC, dI)) (ci := 7) (v := .ref (ad 23)) (C := RX7) (T := TX7) (N := 6) hx hb hts hiX7 hown hK hP 0 rfl rfl 3 (by decide) hL6 (fun _ h9 => h9) rfl dX7_study_9 ?_
        refine lv_iload_n hx hb dX7_study_12 rfl (lv_at hl 3 rfl) ?_
        refine lv_lconst (v := 0) hx hb dX7_study_13 (by decide) ?_
        refine bw_last hx hb hK hP hD hS 1 1 rfl rfl (j := i) (nI_toInt (by omega)) (by omega) dX7_study_14 (fun H locs hP hD hS => ?_)
        have hP : va_P (dC, dI) vwCl [(ad 22, .inr (7, [.ref (ad 3), .ref (ad 9), .ref (ad 14), .ref (ad 23), .ref (ad 24), .int sb])), (ad 23, .inl (cy 1, 10, .inr (.inl (vp_updL f i 0)))), (ad 24, .inl (cy 1, 10, .inr (.inl g))), (ad 9, .inr (3, [.ref (ad 10), .ref (ad 11), .ref (ad 12), .ref (ad 13), .int (nI pn)])), (ad 13, .inl (cy 0, 30, .inl mk)), (ad 14, .inr (2, [.ref (ad 15), .ref (ad 16), .ref (ad 17), .ref (ad 18), .ref (ad 19), .ref (ad 20), .ref (ad 21), .int (nI qn)])), (ad 15, .inl (cy 0, 100, .inl qp)), (ad 16, .inl (cy 0, 100, .inl qs)), (ad 17, .inl (cy 0, 100, .inl qt)), (ad 18, .inl (cy 0, 100, .inl qm)), (ad 19, .inl (cy 0, 100, .inl qf)), (ad 20, .inl (cy 0, 100, .inl ql)), (ad 21, .inl (cy 2, 100, .inl qx)), (ad 3, .inr (6, [.ref (ad 4), .ref (ad 5), .ref (ad 6), .ref (ad 7), .ref (ad 8), .int (nI sn)])), (ad 4, .inl (cy 0, 40, .inl nb)), (ad 5, .inl (cy 0, 320, .inl fr)), (ad 6, .inl (cy 0, 320, .inl tt)), (ad 7, .inl (cy 0, 320, .inl st)), (ad 8, .inl (cy 0, 320, .inl nu))] H := hP
        have hD : va_D A [(ad 22, .inr (7, [.ref (ad 3), .ref (ad 9), .ref (ad 14), .ref (ad 23), .ref (ad 24), .int sb])), (ad 23, .inl (cy 1, 10, .inr (.inl (vp_updL f i 0)))), (ad 24, .inl (cy 1, 10, .inr (.inl g))), (ad 9, .inr (3, [.ref (ad 10), .ref (ad 11), .ref (ad 12), .ref (ad 13), .int (nI pn)])), (ad 13, .inl (cy 0, 30, .inl mk)), (ad 14, .inr (2, [.ref (ad 15), .ref (ad 16), .ref (ad 17), .ref (ad 18), .ref (ad 19), .ref (ad 20), .ref (ad 21), .int (nI qn)])), (ad 15, .inl (cy 0, 100, .inl qp)), (ad 16, .inl (cy 0, 100, .inl qs)), (ad 17, .inl (cy 0, 100, .inl qt)), (ad 18, .inl (cy 0, 100, .inl qm)), (ad 19, .inl (cy 0, 100, .inl qf)), (ad 20, .inl (cy 0, 100, .inl ql)), (ad 21, .inl (cy 2, 100, .inl qx)), (ad 3, .inr (6, [.ref (ad 4), .ref (ad 5), .ref (ad 6), .ref (ad 7), .ref (ad 8), .int (nI sn)])), (ad 4, .inl (cy 0, 40, .inl nb)), (ad 5, .inl (cy 0, 320, .inl fr)), (ad 6, .inl (cy 0, 320, .inl tt)), (ad 7, .inl (cy 0, 320, .inl st)), (ad 8, .inl (cy 0, 320, .inl nu))] := hD
        refine lv_aload_n hx hb dX7_study_15 rfl (lv_at hl 0 rfl) ?_
        refine va_get (D := (dC, dI)) (ci := 7) (v := .ref (ad 24)) (C := RX7) (T := TX7) (N := 6) hx hb hts hiX7 hown hK hP 0 rfl rfl 4 (by decide) hL7 (fun _ h9 => h9) rfl dX7_study_16 ?_
        refine lv_iload_n hx hb dX7_study_19 rfl (lv_at hl 3 rfl) ?_
        refine lv_lconst (v := 0) hx hb dX7_study_20 (by decide) ?_
        refine bw_last hx hb hK hP hD hS 2 1 rfl rfl (j := i) (nI_toInt (by omega)) (by omega) dX7_study_21 (fun H locs hP hD hS => ?_)
        have hP : va_P (dC, dI) vwCl [(ad 22, .inr (7, [.ref (ad 3), .ref (ad 9), .ref (ad 14), .ref (ad 23), .ref (ad 24), .int sb])), (ad 23, .inl (cy 1, 10, .inr (.inl (vp_updL f i 0)))), (ad 24, .inl (cy 1, 10, .inr (.inl (vp_updL g i 0)))), (ad 9, .inr (3, [.ref (ad 10), .ref (ad 11), .ref (ad 12), .ref (ad 13), .int (nI pn)])), (ad 13, .inl (cy 0, 30, .inl mk)), (ad 14, .inr (2, [.ref (ad 15), .ref (ad 16), .ref (ad 17), .ref (ad 18), .ref (ad 19), .ref (ad 20), .ref (ad 21), .int (nI qn)])), (ad 15, .inl (cy 0, 100, .inl qp)), (ad 16, .inl (cy 0, 100, .inl qs)), (ad 17, .inl (cy 0, 100, .inl qt)), (ad 18, .inl (cy 0, 100, .inl qm)), (ad 19, .inl (cy 0, 100, .inl qf)), (ad 20, .inl (cy 0, 100, .inl ql)), (ad 21, .inl (cy 2, 100, .inl qx)), (ad 3, .inr (6, [.ref (ad 4), .ref (ad 5), .ref (ad 6), .ref (ad 7), .ref (ad 8), .int (nI sn)])), (ad 4, .inl (cy 0, 40, .inl nb)), (ad 5, .inl (cy 0, 320, .inl fr)), (ad 6, .inl (cy 0, 320, .inl tt)), (ad 7, .inl (cy 0, 320, .inl st)), (ad 8, .inl (cy 0, 320, .inl nu))] H := hP
        have hD : va_D A [(ad 22, .inr (7, [.ref (ad 3), .ref (ad 9), .ref (ad 14), .ref (ad 23), .ref (ad 24), .int sb])), (ad 23, .inl (cy 1, 10, .inr (.inl (vp_updL f i 0)))), (ad 24, .inl (cy 1, 10, .inr (.inl (vp_updL g i 0)))), (ad 9, .inr (3, [.ref (ad 10), .ref (ad 11), .ref (ad 12), .ref (ad 13), .int (nI pn)])), (ad 13, .inl (cy 0, 30, .inl mk)), (ad 14, .inr (2, [.ref (ad 15), .ref (ad 16), .ref (ad 17), .ref (ad 18), .ref (ad 19), .ref (ad 20), .ref (ad 21), .int (nI qn)])), (ad 15, .inl (cy 0, 100, .inl qp)), (ad 16, .inl (cy 0, 100, .inl qs)), (ad 17, .inl (cy 0, 100, .inl qt)), (ad 18, .inl (cy 0, 100, .inl qm)), (ad 19, .inl (cy 0, 100, .inl qf)), (ad 20, .inl (cy 0, 100, .inl ql)), (ad 21, .inl (cy 2, 100, .inl qx)), (ad 3, .inr (6, [.ref (ad 4), .ref (ad 5), .ref (ad 6), .ref (ad 7), .ref (ad 8), .int (nI sn)])), (ad 4, .inl (cy 0, 40, .inl nb)), (ad 5, .inl (cy 0, 320, .inl fr)), (ad 6, .inl (cy 0, 320, .inl tt)), (ad 7, .inl (cy 0, 320, .inl st)), (ad 8, .inl (cy 0, 320, .inl nu))] := hD
        refine lv_iinc (v := nI (i + 1)) (lv' := [(3, .int (nI (i + 1))), (0, .ref (ad 22)), (1, .int (nI p)), (2, .int (nI s))]) hx hb dX7_study_22 hl (k := 3) rfl (show nI i + Int32.ofInt 1 = nI (i + 1) from nI_add i 1) (by decide) rfl (fun ls hl => ?_)
        refine lv_goto (tgt := 2) hx hb dX7_study_25 (by decide) ?_
        have hI_hf : ∀ k, k < (i + 1) → (vp_updL f i 0) k = 0 ∧ (vp_updL g i 0) k = 0 := by
          intro k hk
          by_cases q : k = i
          · subst q; exact ⟨pk_uLs, pk_uLs⟩
          · rw [pk_uLn q, pk_uLn q]; exact hf k (by omega)
        exact ih2 (i + 1) (vp_updL f i 0) (vp_updL g i 0) (by omega) (by first | assumption | omega) hI_hf H locs hP hD hS ls (lv_sub hl [1, 2, 3, 0] rfl)
  have hI_hf : ∀ k, k < 0 → su k = 0 ∧ my k = 0 := by
    exact fun k hk => absurd hk (Nat.not_lt_zero _)
  exact L_2 ((10 - 0) + 1) 0 su my (by omega) (by first | assumption | omega) hI_hf H locs hP hD hS ls (lv_sub hl [1, 2, 3, 0] rfl)
