-- JUDGING a round, as numbers: why it doesn't fit, where, its times and cost (pure)
def mx (x y : Int) : Int := if x < y then y else x
/-- all in it are stops -/
def RV (ns : Int) (l : List Int) : Prop := ln l ≤ 12 ∧ ∀ i, 0 ≤ i → i < ln l → 0 ≤ gt l i ∧ gt l i < ns
def pr1 (D : sto) (l : List Int) (i : Int) : Bool := decide ((D 0 (gt l i) = 2 ∧ D 6 (gt l i) ∉ l.take i.toNat) ∨ (D 0 (gt l i) = 1 ∧ 0 ≤ D 6 (gt l i) ∧ D 6 (gt l i) ∉ l))
theorem mem_take {l : List Int} {i m : Int} (i0 : 0 ≤ i) (i1 : i ≤ ln l) : m ∈ l.take i.toNat ↔ ∃ j, 0 ≤ j ∧ j < i ∧ gt l j = m := by
  rw [mem_gt]
  have hl : ln (l.take i.toNat) = i := by
    unfold ln at *
    rw [List.length_take]
    omega
  have hg : ∀ j, 0 ≤ j → j < i → gt (l.take i.toNat) j = gt l j := fun j j0 j1 => by
    unfold gt
    rw [List.getD_eq_getElem?_getD, List.getD_eq_getElem?_getD, List.getElem?_take, if_pos (by omega)]
  rw [hl]
  constructor
  · rintro ⟨j, h0, h1, h2⟩
    exact ⟨j, h0, h1, by rw [← hg j h0 h1]; exact h2⟩
  · rintro ⟨j, h0, h1, h2⟩
    exact ⟨j, h0, h1, by rw [hg j h0 h1]; exact h2⟩
def ld0N (D : sto) (l : List Int) : Nat → Int
  | 0 => 0
  | n + 1 => ld0N D l n + (if D 0 (gt l n) = 1 ∨ D 0 (gt l n) = 2 then 0 else D 5 (gt l n))
def ld0 (D : sto) (l : List Int) : Int := ld0N D l l.length
def ldN (D : sto) (l : List Int) : Nat → Int
  | 0 => ld0 D l
  | n + 1 => ldN D l n + (if D 0 (gt l n) = 1 then D 5 (gt l n) else - D 5 (gt l n))
/-- what is aboard behind i stops -/
def lda (D : sto) (l : List Int) (i : Int) : Int := ldN D l i.toNat
def pr2 (D : sto) (v : Int) (l : List Int) (i : Int) : Bool := decide (D 8 v < lda D l (i + 1))
def hr (D : sto) (l : List Int) (i : Int) : Int := if i = 0 then 0 else D 1 (gt l (i - 1))
noncomputable def mtN (D : sto) (v : Int) (l : List Int) : Nat → Int
  | 0 => D 9 v
  | n + 1 => mx (way D (hr D l n) (D 1 (gt l n)) (mtN D v l n)) (D 2 (gt l n)) + D 4 (gt l n)
/-- the minute at which the van leaves for its stop i -/
noncomputable def mt (D : sto) (v : Int) (l : List Int) (i : Int) : Int := mtN D v l i.toNat
noncomputable def cm (D : sto) (v : Int) (l : List Int) (i : Int) : Int := way D (hr D l i) (D 1 (gt l i)) (mt D v l i)
noncomputable def bg (D : sto) (v : Int) (l : List Int) (i : Int) : Int := mx (cm D v l i) (D 2 (gt l i))
noncomputable def pr3 (D : sto) (v : Int) (l : List Int) (i : Int) : Bool := decide (480 ≤ bg D v l i ∨ (D 3 (gt l i) < bg D v l i ∧ D 0 (gt l i) ≠ 3))
noncomputable def bk (D : sto) (v : Int) (l : List Int) : Int := way D (hr D l (ln l)) 0 (mt D v l (ln l))
noncomputable def lte (D : sto) (v : Int) (l : List Int) (i : Int) : Int := mx (bg D v l i - D 3 (gt l i)) 0
noncomputable def exN (D : sto) (v : Int) (l : List Int) : Nat → Int
  | 0 => 0
  | n + 1 => exN D v l n + (lte D v l n * D 7 (gt l n) - D 4 (gt l n))
noncomputable def wtN (D : sto) (v : Int) (l : List Int) : Nat → Int
  | 0 => 0
  | n + 1 => wtN D v l n + (bg D v l n - cm D v l n)
noncomputable def ltN (D : sto) (v : Int) (l : List Int) : Nat → Int
  | 0 => 0
  | n + 1 => ltN D v l n + lte D v l n
noncomputable def ex (D : sto) (v : Int) (l : List Int) (i : Int) : Int := exN D v l i.toNat
noncomputable def wt (D : sto) (v : Int) (l : List Int) (i : Int) : Int := wtN D v l i.toNat
noncomputable def lt9 (D : sto) (v : Int) (l : List Int) (i : Int) : Int := ltN D v l i.toNat
theorem sN {f : Nat → Int} {g : Int → Int} (hg : ∀ i, g i = f i.toNat) {i : Int} (h : 0 ≤ i) : g (i + 1) = f (i.toNat + 1) ∧ ((i.toNat : Nat) : Int) = i := by
  refine ⟨?_, by omega⟩
  rw [hg, show (i + 1).toNat = i.toNat + 1 by omega]
theorem lda_s {D : sto} {l : List Int} {i : Int} (h : 0 ≤ i) : lda D l (i + 1) = lda D l i + (if D 0 (gt l i) = 1 then D 5 (gt l i) else - D 5 (gt l i)) := by
  unfold lda
  rw [show (i + 1).toNat = i.toNat + 1 by omega]
  show ldN D l i.toNat + (if D 0 (gt l ((i.toNat : Nat) : Int)) = 1 then D 5 (gt l ((i.toNat : Nat) : Int)) else - D 5 (gt l ((i.toNat : Nat) : Int))) = _
  rw [show ((i.toNat : Nat) : Int) = i by omega]
theorem mt_s {D : sto} {v : Int} {l : List Int} {i : Int} (h : 0 ≤ i) : mt D v l (i + 1) = bg D v l i + D 4 (gt l i) := by
  unfold bg cm mt
  rw [show (i + 1).toNat = i.toNat + 1 by omega]
  show mx (way D (hr D l ((i.toNat : Nat) : Int)) (D 1 (gt l ((i.toNat : Nat) : Int))) (mtN D v l i.toNat)) (D 2 (gt l ((i.toNat : Nat) : Int))) + D 4 (gt l ((i.toNat : Nat) : Int)) = _
  rw [show ((i.toNat : Nat) : Int) = i by omega]
theorem ex_s {D : sto} {v : Int} {l : List Int} {i : Int} (h : 0 ≤ i) : ex D v l (i + 1) = ex D v l i + (lte D v l i * D 7 (gt l i) - D 4 (gt l i)) := by
  unfold ex
  rw [show (i + 1).toNat = i.toNat + 1 by omega]
  show exN D v l i.toNat + (lte D v l ((i.toNat : Nat) : Int) * D 7 (gt l ((i.toNat : Nat) : Int)) - D 4 (gt l ((i.toNat : Nat) : Int))) = _
  rw [show ((i.toNat : Nat) : Int) = i by omega]
theorem wt_s {D : sto} {v : Int} {l : List Int} {i : Int} (h : 0 ≤ i) : wt D v l (i + 1) = wt D v l i + (bg D v l i - cm D v l i) := by
  unfold wt
  rw [show (i + 1).toNat = i.toNat + 1 by omega]
  show wtN D v l i.toNat + (bg D v l ((i.toNat : Nat) : Int) - cm D v l ((i.toNat : Nat) : Int)) = _
  rw [show ((i.toNat : Nat) : Int) = i by omega]
theorem lt9_s {D : sto} {v : Int} {l : List Int} {i : Int} (h : 0 ≤ i) : lt9 D v l (i + 1) = lt9 D v l i + lte D v l i := by
  unfold lt9
  rw [show (i + 1).toNat = i.toNat + 1 by omega]
  show ltN D v l i.toNat + lte D v l ((i.toNat : Nat) : Int) = _
  rw [show ((i.toNat : Nat) : Int) = i by omega]
theorem hr_s {D : sto} {l : List Int} {i : Int} (h : 0 ≤ i) : hr D l (i + 1) = D 1 (gt l i) := by
  unfold hr
  rw [if_neg (by omega), show i + 1 - 1 = i by omega]
/-- WHY: 0 it fits, 1 .. 4 -/
noncomputable def whyOf (D : sto) (v : Int) (l : List Int) : Int :=
  if ln l = 0 then 0
  else if fst1 (pr1 D l) (ln l) < ln l then 1
  else if D 8 v < ld0 D l then 2
  else if fst1 (pr2 D v l) (ln l) < ln l then 2
  else if fst1 (pr3 D v l) (ln l) < ln l then 3
  else if D 10 v < bk D v l then 4
  else 0
noncomputable def whrOf (D : sto) (v : Int) (l : List Int) : Int :=
  if ln l = 0 then -1
  else if fst1 (pr1 D l) (ln l) < ln l then fst1 (pr1 D l) (ln l)
  else if D 8 v < ld0 D l then -1
  else if fst1 (pr2 D v l) (ln l) < ln l then fst1 (pr2 D v l) (ln l)
  else if fst1 (pr3 D v l) (ln l) < ln l then fst1 (pr3 D v l) (ln l)
  else if D 10 v < bk D v l then ln l
  else -1
noncomputable def cst (D : sto) (v : Int) (l : List Int) : Int := if ln l = 0 then 0 else ex D v l (ln l) + (bk D v l - D 9 v + D 11 v)
theorem whyOf_in (D : sto) (v : Int) (l : List Int) : 0 ≤ whyOf D v l ∧ whyOf D v l ≤ 4 := by
  unfold whyOf
  repeat' split
  all_goals omega
section JB
variable {D : sto} {ns nv v : Int} {l : List Int}
theorem hr_in (hO : DOK D ns nv) (hl : RV ns l) {i : Int} (i0 : 0 ≤ i) (i1 : i ≤ ln l) : 0 ≤ hr D l i ∧ hr D l i < 8 := by
  unfold hr
  split
  · omega
  · have h1 := hl.2 (i - 1) (by omega) (by omega)
    exact (hO.2.1 _ h1.1 h1.2).2.1
/-- the minutes, while nothing has failed -/
theorem mt_in (hO : DOK D ns nv) (hl : RV ns l) (v0 : 0 ≤ v) (v1 : v < nv) {i : Int} (i0 : 0 ≤ i) (i1 : i ≤ ln l) (hp : ∀ j, 0 ≤ j → j < i → pr3 D v l j = false) : 0 ≤ mt D v l i ∧ mt D v l i ≤ 600 := by
  have hv := hO.2.2.2.1 v v0 v1
  by_cases e : i = 0
  · rw [e]
    show 0 ≤ D 9 v ∧ D 9 v ≤ 600
    omega
  · have h1 := mt_s (D := D) (v := v) (l := l) (i := i - 1) (by omega)
    rw [show i - 1 + 1 = i by omega] at h1
    have h2 := hl.2 (i - 1) (by omega) (by omega)
    have h3 := hO.2.1 _ h2.1 h2.2
    have h4 := of_decide_eq_false (hp (i - 1) (by omega) (by omega))
    have h5 : D 2 (gt l (i - 1)) ≤ bg D v l (i - 1) := by
      unfold bg mx
      split <;> omega
    omega
theorem cm_in (hO : DOK D ns nv) (hl : RV ns l) (v0 : 0 ≤ v) (v1 : v < nv) {i : Int} (i0 : 0 ≤ i) (i1 : i < ln l) (hp : ∀ j, 0 ≤ j → j < i → pr3 D v l j = false) : 0 ≤ cm D v l i ∧ cm D v l i ≤ 1000000 ∧ 0 ≤ bg D v l i ∧ bg D v l i ≤ 1000000 ∧ cm D v l i ≤ bg D v l i ∧ 0 ≤ lte D v l i ∧ lte D v l i ≤ 1000000 := by
  have h1 := mt_in hO hl v0 v1 i0 (by omega) hp
  have h2 := hl.2 i i0 i1
  have h3 := hO.2.1 _ h2.1 h2.2
  have h4 := way_in (D := D) (a := hr D l i) (b := D 1 (gt l i)) hO.2.2.2.2 h1.1 (by omega) h3.2.1.1 h3.2.1.2
  have e : cm D v l i = way D (hr D l i) (D 1 (gt l i)) (mt D v l i) := rfl
  rw [← e] at h4
  have hb : cm D v l i ≤ bg D v l i ∧ bg D v l i ≤ 1000000 := by
    unfold bg mx
    split <;> omega
  have hc : 0 ≤ lte D v l i ∧ lte D v l i ≤ 1000000 := by
    unfold lte mx
    split <;> omega
  omega
theorem ld0_in (hO : DOK D ns nv) (hl : RV ns l) (n : Nat) (hn : (n : Int) ≤ ln l) : 0 ≤ ld0N D l n ∧ ld0N D l n ≤ 99 * n := by
  induction n with
  | zero => exact ⟨Int.le_refl _, Int.le_refl _⟩
  | succ n ih =>
    have h1 := ih (by omega)
    have h2 := hl.2 n (by omega) (by omega)
    have h3 := hO.2.1 _ h2.1 h2.2
    show 0 ≤ ld0N D l n + _ ∧ ld0N D l n + _ ≤ _
    split <;> omega
theorem lda_in (hO : DOK D ns nv) (hl : RV ns l) {i : Int} (i0 : 0 ≤ i) (i1 : i ≤ ln l) : -1200 ≤ lda D l i ∧ lda D l i ≤ 2400 := by
  have key : ∀ n : Nat, (n : Int) ≤ ln l → -99 * (n : Int) ≤ ldN D l n ∧ ldN D l n ≤ 1188 + 99 * n := by
    intro n
    induction n with
    | zero =>
      intro _
      have := ld0_in hO hl l.length (Int.le_refl _)
      have h12 := hl.1
      show _ ≤ ld0 D l ∧ ld0 D l ≤ _
      unfold ld0
      unfold ln at h12
      omega
    | succ n ih =>
      intro hn
      have h1 := ih (by omega)
      have h2 := hl.2 n (by omega) (by omega)
      have h3 := hO.2.1 _ h2.1 h2.2
      show _ ≤ ldN D l n + _ ∧ ldN D l n + _ ≤ _
      split <;> omega
  have := key i.toNat (by omega)
  have h12 := hl.1
  unfold lda
  omega
end JB
-- sets of stops as bits
theorem nb_or (a b : Nat) : Int32.ofInt (a : Int) ||| Int32.ofInt (b : Int) = Int32.ofInt ((a ||| b : Nat) : Int) := by
  rw [Int32.ofInt_eq_ofNat, Int32.ofInt_eq_ofNat, Int32.ofInt_eq_ofNat]
  apply Int32.toBitVec_inj.1
  show BitVec.ofNat 32 a ||| BitVec.ofNat 32 b = BitVec.ofNat 32 (a ||| b)
  apply BitVec.eq_of_getLsbD_eq
  intro i hi
  simp [hi]
theorem nb_shl {s : Int} (s0 : 0 ≤ s) (s1 : s < 12) : Int32.ofInt 1 <<< (Int32.ofInt s &&& 31) = Int32.ofInt ((2 ^ s.toNat : Nat) : Int) := by
  rcases (show s = 0 ∨ s = 1 ∨ s = 2 ∨ s = 3 ∨ s = 4 ∨ s = 5 ∨ s = 6 ∨ s = 7 ∨ s = 8 ∨ s = 9 ∨ s = 10 ∨ s = 11 by omega) with rfl | rfl | rfl | rfl | rfl | rfl | rfl | rfl | rfl | rfl | rfl | rfl <;> decide
theorem nb_shr {a : Nat} {s : Int} (ha : a < 4096) (s0 : 0 ≤ s) (s1 : s < 12) : Int32.ofInt (a : Int) >>> (Int32.ofInt s &&& 31) = Int32.ofInt ((a / 2 ^ s.toNat : Nat) : Int) := by
  rw [Int32.ofInt_eq_ofNat, Int32.ofInt_eq_ofNat]
  refine pk_shrN (by omega) _ s.toNat ?_
  rcases (show s = 0 ∨ s = 1 ∨ s = 2 ∨ s = 3 ∨ s = 4 ∨ s = 5 ∨ s = 6 ∨ s = 7 ∨ s = 8 ∨ s = 9 ∨ s = 10 ∨ s = 11 by omega) with rfl | rfl | rfl | rfl | rfl | rfl | rfl | rfl | rfl | rfl | rfl | rfl <;> decide
theorem nb_and {a : Nat} (ha : a < 4096) : Int32.ofInt (a : Int) &&& Int32.ofInt 1 = Int32.ofInt ((a % 2 : Nat) : Int) := by
  rw [Int32.ofInt_eq_ofNat, Int32.ofInt_eq_ofNat]
  exact pk_andN (by omega) 1 (by decide)
def mskN (l : List Int) : Nat → Nat
  | 0 => 0
  | n + 1 => mskN l n ||| 2 ^ (gt l n).toNat
def msk (l : List Int) (i : Int) : Nat := mskN l i.toNat
theorem msk_s {l : List Int} {i : Int} (h : 0 ≤ i) : msk l (i + 1) = msk l i ||| 2 ^ (gt l i).toNat := by
  unfold msk
  rw [show (i + 1).toNat = i.toNat + 1 by omega]
  show mskN l i.toNat ||| 2 ^ (gt l ((i.toNat : Nat) : Int)).toNat = _
  rw [show ((i.toNat : Nat) : Int) = i by omega]
theorem msk_lt {ns : Int} {l : List Int} (hl : RV ns l) (hns : ns ≤ 12) {i : Int} (i1 : i ≤ ln l) : msk l i < 4096 := by
  have key : ∀ n : Nat, (n : Int) ≤ ln l → mskN l n < 2 ^ 12 := by
    intro n
    induction n with
    | zero => intro _; exact (by decide : (0 : Nat) < 2 ^ 12)
    | succ n ih =>
      intro hn
      have h2 := hl.2 n (by omega) (by omega)
      refine Nat.or_lt_two_pow (ih (by omega)) (Nat.pow_lt_pow_right (by decide) (by omega))
  by_cases h : 0 ≤ i
  · exact key i.toNat (by omega)
  · unfold msk
    rw [show i.toNat = 0 by omega]
    exact (by decide : (0 : Nat) < 4096)
theorem msk_bit {l : List Int} {m : Nat} {i : Int} (i0 : 0 ≤ i) : (msk l i).testBit m = true ↔ ∃ j, 0 ≤ j ∧ j < i ∧ (gt l j).toNat = m := by
  have key : ∀ n : Nat, (mskN l n).testBit m = true ↔ ∃ j : Int, 0 ≤ j ∧ j < n ∧ (gt l j).toNat = m := by
    intro n
    induction n with
    | zero =>
      constructor
      · intro h; simp [mskN] at h
      · rintro ⟨j, h0, h1, -⟩; omega
    | succ n ih =>
      show (mskN l n ||| 2 ^ (gt l n).toNat).testBit m = true ↔ _
      rw [Nat.testBit_or, Bool.or_eq_true, ih, Nat.testBit_two_pow]
      constructor
      · rintro (⟨j, h0, h1, h2⟩ | h)
        · exact ⟨j, h0, by omega, h2⟩
        · exact ⟨n, by omega, by omega, by simpa using h⟩
      · rintro ⟨j, h0, h1, h2⟩
        by_cases e : j = n
        · right; rw [← e]; simpa using h2
        · left; exact ⟨j, h0, by omega, h2⟩
  have := key i.toNat
  unfold msk
  rw [this, show ((i.toNat : Nat) : Int) = i by omega]
theorem bit_mod (a m : Nat) : a / 2 ^ m % 2 = if a.testBit m = true then 1 else 0 := by
  rw [Nat.testBit_eq_decide_div_mod_eq]
  have : a / 2 ^ m % 2 < 2 := Nat.mod_lt _ (by decide)
  by_cases h : a / 2 ^ m % 2 = 1
  · simp [h]
  · simp [h]
    omega
