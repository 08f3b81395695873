/-! flags -/
noncomputable def fl (P : Prop) (k : Int32) : Int32 := @ite Int32 P (Classical.propDecidable P) k 0
theorem fl_t {P : Prop} {k : Int32} (h : P) : fl P k = k := by unfold fl; exact @if_pos P (Classical.propDecidable P) h Int32 k 0
theorem fl_f {P : Prop} {k : Int32} (h : ¬ P) : fl P k = 0 := by unfold fl; exact @if_neg P (Classical.propDecidable P) h Int32 k 0
theorem fl_cong {P Q : Prop} {k : Int32} (h : P ↔ Q) : fl P k = fl Q k := by rw [propext h]
theorem fl_hit {x k : Int32} {A B : Prop} (hB : B) : (x ||| fl A k) ||| k = x ||| fl B k := by
  rw [fl_t hB, Int32.or_assoc]
  by_cases h : A
  · rw [fl_t h, Int32.or_self]
  · rw [fl_f h, Int32.zero_or]
/-- what the facts say against an asking -/
noncomputable def fA (nS nC : Nat) (L : Nat → Bool) (di1 ay1 t0 t1 t2 t3 : Int) (gone : Prop) : Int32 :=
  fl (di1 = -1 ∨ ay1 - di1 < t0) 1 ||| fl ((nS : Int) < t1) 2 ||| fl ((nC : Int) < t2) 4 ||| fl gone 8 ||| fl (∀ r9, lstIs L r9 → r9.toInt = -1 ∨ t3 < ay1 - r9.toInt) 128
theorem far_iff {L : Nat → Bool} {r : Int32} {y t : Int} (h : lstIs L r) : (∀ r9, lstIs L r9 → r9.toInt = -1 ∨ t < y - r9.toInt) ↔ (r.toInt = -1 ∨ t < y - r.toInt) :=
  ⟨fun q => q r h, fun q r9 h9 => by rw [lst_one h9 h]; exact q⟩
