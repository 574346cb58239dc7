-- WAYS: streets, when one comes over one, and by a way (pure)
def tk (D : sto) (a b h : Int) : Int := D 12 ((a * 8 + b) * 8 + h)
/-- the least of 60 h' + f h' for the last n hours; a million if there is none -/
def latN (f : Int → Int) : Nat → Int
  | 0 => 1000000
  | n + 1 => if (7 - n) * 60 + f (7 - n) < latN f n then (7 - n) * 60 + f (7 - n) else latN f n
def lat (f : Int → Int) (h : Int) : Int := latN f (8 - h).toNat
theorem lat_8 {f : Int → Int} : lat f 8 = 1000000 := rfl
theorem lat_step {f : Int → Int} {h : Int} (h0 : 0 ≤ h) (h1 : h < 8) : lat f h = if h * 60 + f h < lat f (h + 1) then h * 60 + f h else lat f (h + 1) := by
  unfold lat
  rw [show (8 - h).toNat = (8 - (h + 1)).toNat + 1 by omega]
  have e : (7 - (((8 - (h + 1)).toNat : Nat) : Int)) = h := by omega
  show (if (7 - (((8 - (h + 1)).toNat : Nat) : Int)) * 60 + f (7 - (((8 - (h + 1)).toNat : Nat) : Int)) < _ then _ else _) = _
  rw [e]
theorem lat_le {f : Int → Int} {h g : Int} (h0 : 0 ≤ h) (hg : h ≤ g) (g1 : g < 8) : lat f h ≤ g * 60 + f g ∧ lat f h ≤ lat f (g + 1) := by
  have key : ∀ n : Nat, ∀ h : Int, 0 ≤ h → h ≤ g → (g - h).toNat = n → lat f h ≤ g * 60 + f g ∧ lat f h ≤ lat f (g + 1) := by
    intro n
    induction n with
    | zero =>
      intro h h0 hg hn
      have e : h = g := by omega
      subst e
      rw [lat_step h0 (by omega)]
      split <;> omega
    | succ n ih =>
      intro h h0 hg hn
      have := ih (h + 1) (by omega) (by omega) (by omega)
      rw [lat_step h0 (by omega)]
      split <;> omega
  exact key _ h h0 hg rfl
theorem lat_in {f : Int → Int} (hf : ∀ h, 0 ≤ h → h < 8 → 1 ≤ f h) : ∀ h : Int, 0 ≤ h → h ≤ 8 → 60 * h + 1 ≤ lat f h ∧ lat f h ≤ 1000000 := by
  have key : ∀ n : Nat, ∀ h : Int, 0 ≤ h → h ≤ 8 → (8 - h).toNat = n → 60 * h + 1 ≤ lat f h ∧ lat f h ≤ 1000000 := by
    intro n
    induction n with
    | zero =>
      intro h h0 h1 hn
      have e : h = 8 := by omega
      subst e
      rw [lat_8]
      omega
    | succ n ih =>
      intro h h0 h1 hn
      have a := ih (h + 1) (by omega) (by omega) (by omega)
      have b := hf h h0 (by omega)
      rw [lat_step h0 (by omega)]
      split <;> omega
  exact fun h h0 h1 => key _ h h0 h1 rfl
def mn (x y : Int) : Int := if y < x then y else x
/-- who sets out over the street from a to b at t comes at -/
def ov (D : sto) (a b t : Int) : Int := if 480 ≤ t ∨ tk D a b 0 = 0 then 1000000 else mn (t + tk D a b (t / 60)) (lat (tk D a b) (t / 60 + 1))
/-- the streets are as told -/
def SOK (D : sto) : Prop := ∀ a b : Int, 0 ≤ a → a < 8 → 0 ≤ b → b < 8 → (∀ h, 0 ≤ h → h < 8 → tk D a b h = tk D b a h) ∧ ((∀ h, 0 ≤ h → h < 8 → tk D a b h = 0) ∨ (∀ h, 0 ≤ h → h < 8 → 1 ≤ tk D a b h ∧ tk D a b h ≤ 99)) ∧ (a = b → ∀ h, 0 ≤ h → h < 8 → tk D a b h = 0)
section WAY
variable {D : sto} (hS : SOK D)
theorem ov_in (hS : SOK D) {a b t : Int} (a0 : 0 ≤ a) (a1 : a < 8) (b0 : 0 ≤ b) (b1 : b < 8) (t0 : 0 ≤ t) (t1 : t < 1000000) : t < ov D a b t ∧ ov D a b t ≤ 1000000 ∧ (ov D a b t = 1000000 ∨ ov D a b t < 600) := by
  unfold ov
  split
  · omega
  · next q =>
    have hlt : t < 480 := by omega
    obtain ⟨-, h2, -⟩ := hS a b a0 a1 b0 b1
    rcases h2 with h2 | h2
    · exact absurd (Or.inr (h2 0 (by omega) (by omega))) q
    · have x1 := h2 (t / 60) (by omega) (by omega)
      have x2 := lat_in (f := tk D a b) (fun h g0 g1 => (h2 h g0 g1).1) (t / 60 + 1) (by omega) (by omega)
      unfold mn
      split <;> omega
theorem ov_mono (hS : SOK D) {a b t u : Int} (a0 : 0 ≤ a) (a1 : a < 8) (b0 : 0 ≤ b) (b1 : b < 8) (t0 : 0 ≤ t) (htu : t ≤ u) : ov D a b t ≤ ov D a b u := by
  obtain ⟨-, h2, -⟩ := hS a b a0 a1 b0 b1
  unfold ov
  by_cases hu : 480 ≤ u ∨ tk D a b 0 = 0
  · rw [if_pos hu]
    by_cases ht : 480 ≤ t ∨ tk D a b 0 = 0
    · rw [if_pos ht]; omega
    · rw [if_neg ht]
      rcases h2 with h2 | h2
      · exact absurd (Or.inr (h2 0 (by omega) (by omega))) ht
      · have x1 := h2 (t / 60) (by omega) (by omega)
        unfold mn
        split <;> omega
  · rw [if_neg hu, if_neg (by omega)]
    rcases h2 with h2 | h2
    · exact absurd (Or.inr (h2 0 (by omega) (by omega))) hu
    · by_cases e : t / 60 = u / 60
      · rw [e]
        unfold mn
        split <;> split <;> omega
      · have x1 := lat_le (f := tk D a b) (h := t / 60 + 1) (g := u / 60) (by omega) (by omega) (by omega)
        unfold mn
        split <;> split <;> omega
/-- the least of a base and g 0 .. g (n - 1) -/
def mnN (g : Int → Int) (base : Int) : Nat → Int
  | 0 => base
  | n + 1 => mn (mnN g base n) (g n)
theorem mnN_base {g : Int → Int} {base : Int} (n : Nat) : mnN g base n ≤ base := by
  induction n with
  | zero => exact Int.le_refl _
  | succ n ih =>
    show mn _ _ ≤ _
    unfold mn
    split <;> omega
theorem mnN_le {g : Int → Int} {base : Int} {n q : Nat} (h : q < n) : mnN g base n ≤ g q := by
  induction n with
  | zero => omega
  | succ n ih =>
    show mn _ _ ≤ _
    by_cases e : q = n
    · subst e
      unfold mn
      split <;> omega
    · have := ih (by omega)
      unfold mn
      split <;> omega
theorem mnN_is (g : Int → Int) (base : Int) (n : Nat) : mnN g base n = base ∨ ∃ q : Nat, q < n ∧ mnN g base n = g q := by
  induction n with
  | zero => exact Or.inl rfl
  | succ n ih =>
    have h : mnN g base (n + 1) = mn (mnN g base n) (g n) := rfl
    rw [h]
    unfold mn
    split
    · exact Or.inr ⟨n, by omega, rfl⟩
    · rcases ih with ih | ⟨q, h1, h2⟩
      · exact Or.inl ih
      · exact Or.inr ⟨q, by omega, h2⟩
/-- when one comes from a, set out at t, over k streets at most -/
def bf (D : sto) (a t : Int) : Nat → Int → Int
  | 0 => fun p => if p = a then t else 1000000
  | k + 1 => fun p => mnN (fun q => ov D q p (bf D a t k q)) (bf D a t k p) 8
variable {a t : Int}
theorem bf_s (k : Nat) (p : Int) : bf D a t (k + 1) p ≤ bf D a t k p := mnN_base 8
theorem bf_le {k j : Nat} (h : k ≤ j) (p : Int) : bf D a t j p ≤ bf D a t k p := by
  induction h with
  | refl => exact Int.le_refl _
  | step _ ih => exact Int.le_trans (bf_s _ p) ih
theorem bf_relax (k : Nat) {p q : Int} (q0 : 0 ≤ q) (q1 : q < 8) : bf D a t (k + 1) p ≤ ov D q p (bf D a t k q) := by
  have := mnN_le (g := fun q => ov D q p (bf D a t k q)) (base := bf D a t k p) (n := 8) (q := q.toNat) (by omega)
  rw [show ((q.toNat : Nat) : Int) = q by omega] at this
  exact this
theorem bf_in (hS : SOK D) (t0 : 0 ≤ t) (t1 : t ≤ 1000000) (k : Nat) : ∀ p, 0 ≤ p → p < 8 → t ≤ bf D a t k p ∧ bf D a t k p ≤ 1000000 := by
  induction k with
  | zero =>
    intro p _ _
    show t ≤ (if p = a then t else 1000000) ∧ (if p = a then t else 1000000) ≤ 1000000
    split <;> omega
  | succ k ih =>
    intro p p0 p1
    have h1 := ih p p0 p1
    rcases mnN_is (fun q => ov D q p (bf D a t k q)) (bf D a t k p) 8 with h | ⟨q, hq, h⟩
    · show t ≤ mnN _ _ 8 ∧ mnN _ _ 8 ≤ _
      rw [h]; exact h1
    · have h2 := ih q (by omega) (by omega)
      show t ≤ mnN _ _ 8 ∧ mnN _ _ 8 ≤ _
      rw [h]
      show t ≤ ov D q p (bf D a t k q) ∧ ov D q p (bf D a t k q) ≤ 1000000
      rcases Int.lt_or_le (bf D a t k q) 1000000 with g | g
      · have := ov_in hS (a := q) (b := p) (by omega) (by omega) p0 p1 (by omega) g
        omega
      · unfold ov
        rw [if_pos (Or.inl (by omega))]
        omega
theorem bf_trace (j : Nat) (p : Int) : bf D a t j p = bf D a t 0 p ∨ ∃ (i : Nat) (q : Nat), q < 8 ∧ i < j ∧ bf D a t j p = ov D q p (bf D a t i q) := by
  induction j with
  | zero => exact Or.inl rfl
  | succ j ih =>
    rcases mnN_is (fun q => ov D q p (bf D a t j q)) (bf D a t j p) 8 with h | ⟨q, hq, h⟩
    · have e : bf D a t (j + 1) p = bf D a t j p := h
      rcases ih with ih | ⟨i, q, h1, h2, h3⟩
      · exact Or.inl (e.trans ih)
      · exact Or.inr ⟨i, q, h1, by omega, e.trans h3⟩
    · exact Or.inr ⟨j, q, hq, by omega, h⟩
def bfin (D : sto) (a t : Int) (k : Nat) (p : Int) : Prop := ∀ j, bf D a t k p ≤ bf D a t j p
theorem bfin_next {k : Nat} {p : Int} (h : bfin D a t k p) : bfin D a t (k + 1) p := fun j => Int.le_trans (bf_s k p) (h j)
theorem bfin_step (hS : SOK D) (t0 : 0 ≤ t) (t1 : t ≤ 1000000) (k : Nat) (h : ∃ p, 0 ≤ p ∧ p < 8 ∧ ¬ bfin D a t k p) : ∃ p, 0 ≤ p ∧ p < 8 ∧ ¬ bfin D a t k p ∧ bfin D a t (k + 1) p := by
  have hin := fun j => bf_in (a := a) hS t0 t1 j
  obtain ⟨n, ⟨p, j, p0, p1, hj, hlt⟩, hmin⟩ := pk_least (fun n : Nat => ∃ (p : Int) (j : Nat), 0 ≤ p ∧ p < 8 ∧ bf D a t j p = n ∧ bf D a t j p < bf D a t k p) (by
    obtain ⟨p, p0, p1, hp⟩ := h
    obtain ⟨j, hj⟩ := Classical.not_forall.mp hp
    have := hin j p p0 p1
    exact ⟨(bf D a t j p).toNat, p, j, p0, p1, by omega, by omega⟩)
  have hk0 := bf_le (D := D) (a := a) (t := t) (Nat.zero_le k) p
  have hkin := hin k p p0 p1
  refine ⟨p, p0, p1, fun q => by have := q j; omega, ?_⟩
  rcases bf_trace (D := D) (a := a) (t := t) j p with e | ⟨i, q, hq, hi, e⟩
  · omega
  · have hq0 := hin i q (by omega) (by omega)
    have hqlt : bf D a t i q < bf D a t j p := by
      rw [e]
      rcases Int.lt_or_le (bf D a t i q) 1000000 with g | g
      · exact (ov_in hS (a := q) (b := p) (by omega) (by omega) p0 p1 (by omega) g).1
      · have : ov D q p (bf D a t i q) = 1000000 := by
          unfold ov
          rw [if_pos (Or.inl (by omega))]
        omega
    have hqf : bfin D a t k q := by
      intro j2
      rcases Int.lt_or_le (bf D a t j2 q) (bf D a t k q) with g | g
      · exfalso
        have b1 := bf_le (D := D) (a := a) (t := t) (Nat.le_max_left i j2) q
        have b2 := bf_le (D := D) (a := a) (t := t) (Nat.le_max_right i j2) q
        have b3 := hin (max i j2) q (by omega) (by omega)
        exact hmin (bf D a t (max i j2) q).toNat (by omega) ⟨q, max i j2, by omega, by omega, by omega, by omega⟩
      · exact g
    intro j2
    have c1 := bf_relax (D := D) (a := a) (t := t) k (p := p) (q := q) (by omega) (by omega)
    have c2 := ov_mono hS (a := q) (b := p) (t := bf D a t k q) (u := bf D a t i q) (by omega) (by omega) p0 p1 (by have := hin k q (by omega) (by omega); omega) (hqf i)
    rcases Int.lt_or_le (bf D a t j2 p) (bf D a t j p) with g | g
    · exfalso
      have := hin j2 p p0 p1
      exact hmin (bf D a t j2 p).toNat (by omega) ⟨p, j2, p0, p1, by omega, by omega⟩
    · omega
noncomputable def bfi (D : sto) (a t : Int) (k : Nat) (p : Int) : Int := @ite _ (bfin D a t k p) (Classical.propDecidable _) 1 0
theorem bfi_in (D : sto) (a t : Int) (k : Nat) (p : Int) : bfi D a t k p = 0 ∧ ¬ bfin D a t k p ∨ bfi D a t k p = 1 ∧ bfin D a t k p := by
  unfold bfi
  by_cases h : bfin D a t k p
  · exact Or.inr ⟨if_pos h, h⟩
  · exact Or.inl ⟨if_neg h, h⟩
theorem bfi_le (D : sto) (a t : Int) (k : Nat) (p : Int) : bfi D a t k p ≤ bfi D a t (k + 1) p := by
  rcases bfi_in D a t k p with ⟨h1, h2⟩ | ⟨h1, h2⟩ <;> rcases bfi_in D a t (k + 1) p with ⟨g1, g2⟩ | ⟨g1, g2⟩
  · omega
  · omega
  · exact absurd (bfin_next h2) g2
  · omega
theorem bf7 (hS : SOK D) (a0 : 0 ≤ a) (a1 : a < 8) (t0 : 0 ≤ t) (t1 : t ≤ 1000000) : ∀ p, 0 ≤ p → p < 8 → bfin D a t 7 p := by
  have key : ∀ k : Nat, k ≤ 7 → (k : Int) + 1 ≤ bfi D a t k 0 + bfi D a t k 1 + bfi D a t k 2 + bfi D a t k 3 + bfi D a t k 4 + bfi D a t k 5 + bfi D a t k 6 + bfi D a t k 7 := by
    intro k
    induction k with
    | zero =>
      intro _
      have ha : bfin D a t 0 a := fun j => by
        have h0 : bf D a t 0 a = t := if_pos rfl
        rw [h0]
        exact (bf_in hS t0 t1 j a a0 a1).1
      have i0 := bfi_in D a t 0 0
      have i1 := bfi_in D a t 0 1
      have i2 := bfi_in D a t 0 2
      have i3 := bfi_in D a t 0 3
      have i4 := bfi_in D a t 0 4
      have i5 := bfi_in D a t 0 5
      have i6 := bfi_in D a t 0 6
      have i7 := bfi_in D a t 0 7
      have hb : ∀ p, a = p → bfi D a t 0 p = 1 := by
        intro p hp
        rcases bfi_in D a t 0 p with ⟨_, h2⟩ | ⟨h1, _⟩
        · exact absurd (by rw [← hp]; exact ha) h2
        · exact h1
      rcases (show a = 0 ∨ a = 1 ∨ a = 2 ∨ a = 3 ∨ a = 4 ∨ a = 5 ∨ a = 6 ∨ a = 7 by omega) with e | e | e | e | e | e | e | e <;> (have hb := hb _ e; omega)
    | succ k ih =>
      intro hk
      have ih := ih (by omega)
      have l0 := bfi_le D a t k 0
      have l1 := bfi_le D a t k 1
      have l2 := bfi_le D a t k 2
      have l3 := bfi_le D a t k 3
      have l4 := bfi_le D a t k 4
      have l5 := bfi_le D a t k 5
      have l6 := bfi_le D a t k 6
      have l7 := bfi_le D a t k 7
      by_cases hall : ∃ p, 0 ≤ p ∧ p < 8 ∧ ¬ bfin D a t k p
      · obtain ⟨p, p0, p1, n1, n2⟩ := bfin_step hS t0 t1 k hall
        have e1 : bfi D a t k p = 0 := by
          rcases bfi_in D a t k p with ⟨h1, _⟩ | ⟨_, h2⟩
          · exact h1
          · exact absurd h2 n1
        have e2 : bfi D a t (k + 1) p = 1 := by
          rcases bfi_in D a t (k + 1) p with ⟨_, h2⟩ | ⟨h1, _⟩
          · exact absurd n2 h2
          · exact h1
        rcases (show p = 0 ∨ p = 1 ∨ p = 2 ∨ p = 3 ∨ p = 4 ∨ p = 5 ∨ p = 6 ∨ p = 7 by omega) with e | e | e | e | e | e | e | e <;> rw [e] at e1 e2 <;> omega
      · have one : ∀ p, 0 ≤ p → p < 8 → bfi D a t (k + 1) p = 1 := by
          intro p p0 p1
          have hp : bfin D a t k p := Classical.byContradiction (fun q => hall ⟨p, p0, p1, q⟩)
          rcases bfi_in D a t (k + 1) p with ⟨_, h2⟩ | ⟨h1, _⟩
          · exact absurd (bfin_next hp) h2
          · exact h1
        have o0 := one 0 (by omega) (by omega)
        have o1 := one 1 (by omega) (by omega)
        have o2 := one 2 (by omega) (by omega)
        have o3 := one 3 (by omega) (by omega)
        have o4 := one 4 (by omega) (by omega)
        have o5 := one 5 (by omega) (by omega)
        have o6 := one 6 (by omega) (by omega)
        have o7 := one 7 (by omega) (by omega)
        omega
  have h7 := key 7 (by omega)
  intro p p0 p1
  have i0 := bfi_in D a t 7 0
  have i1 := bfi_in D a t 7 1
  have i2 := bfi_in D a t 7 2
  have i3 := bfi_in D a t 7 3
  have i4 := bfi_in D a t 7 4
  have i5 := bfi_in D a t 7 5
  have i6 := bfi_in D a t 7 6
  have i7 := bfi_in D a t 7 7
  have hp : bfi D a t 7 p = 1 := by
    rcases (show p = 0 ∨ p = 1 ∨ p = 2 ∨ p = 3 ∨ p = 4 ∨ p = 5 ∨ p = 6 ∨ p = 7 by omega) with e | e | e | e | e | e | e | e <;> rw [e] <;> omega
  rcases bfi_in D a t 7 p with ⟨h1, _⟩ | ⟨_, h2⟩
  · omega
  · exact h2
/-- d tells rightly when one comes from a, set out at t -/
def RW (D : sto) (a t : Int) (d : Int → Int) : Prop := d a ≤ t ∧ (∀ p, 0 ≤ p → p < 8 → d p ≤ 1000000 ∧ ∃ k, bf D a t k p ≤ d p) ∧ ∀ p q, 0 ≤ p → p < 8 → 0 ≤ q → q < 8 → d q ≤ ov D p q (d p)
theorem RW_le (hS : SOK D) (a0 : 0 ≤ a) (a1 : a < 8) (t0 : 0 ≤ t) (t1 : t ≤ 1000000) {d : Int → Int} (h : RW D a t d) (k : Nat) : ∀ p, 0 ≤ p → p < 8 → d p ≤ bf D a t k p := by
  induction k with
  | zero =>
    intro p p0 p1
    show d p ≤ if p = a then t else 1000000
    split
    · next e => rw [e]; exact h.1
    · exact (h.2.1 p p0 p1).1
  | succ k ih =>
    intro p p0 p1
    rcases mnN_is (fun q => ov D q p (bf D a t k q)) (bf D a t k p) 8 with e | ⟨q, hq, e⟩
    · show d p ≤ mnN _ _ 8
      rw [e]; exact ih p p0 p1
    · show d p ≤ mnN _ _ 8
      rw [e]
      obtain ⟨-, j, hj⟩ := h.2.1 q (by omega) (by omega)
      have hq0 := bf_in (a := a) hS t0 t1 j q (by omega) (by omega)
      exact Int.le_trans (h.2.2 q p (by omega) (by omega) p0 p1) (ov_mono hS (by omega) (by omega) p0 p1 (by omega) (ih q (by omega) (by omega)))
theorem RW_uniq (hS : SOK D) (a0 : 0 ≤ a) (a1 : a < 8) (t0 : 0 ≤ t) (t1 : t ≤ 1000000) {d e : Int → Int} (h : RW D a t d) (g : RW D a t e) : ∀ p, 0 ≤ p → p < 8 → d p = e p := by
  intro p p0 p1
  obtain ⟨-, j, hj⟩ := h.2.1 p p0 p1
  obtain ⟨-, i, hi⟩ := g.2.1 p p0 p1
  have a1 := RW_le hS a0 a1 t0 t1 h i p p0 p1
  have b1 := RW_le hS a0 ‹a < 8› t0 t1 g j p p0 p1
  omega
theorem RW_bf (hS : SOK D) (a0 : 0 ≤ a) (a1 : a < 8) (t0 : 0 ≤ t) (t1 : t ≤ 1000000) : RW D a t (bf D a t 7) := by
  refine ⟨?_, fun p p0 p1 => ⟨(bf_in hS t0 t1 7 p p0 p1).2, 7, Int.le_refl _⟩, fun p q p0 p1 q0 q1 => ?_⟩
  · have := bf_le (D := D) (a := a) (t := t) (Nat.zero_le 7) a
    have h0 : bf D a t 0 a = t := if_pos rfl
    omega
  · exact Int.le_trans (bf7 hS a0 a1 t0 t1 q q0 q1 8) (bf_relax 7 p0 p1)
end WAY
/-- when one comes by a way from a to b that sets out at t; a million: there is none -/
theorem way_ex : ∃ f : sto → Int → Int → Int → Int, ∀ D a b t, f D a b t = bf D a t 7 b := ⟨fun D a b t => bf D a t 7 b, fun _ _ _ _ => rfl⟩
noncomputable def way : sto → Int → Int → Int → Int := Classical.choose way_ex
theorem way_def (D : sto) (a b t : Int) : way D a b t = bf D a t 7 b := Classical.choose_spec way_ex D a b t
theorem way_of {D : sto} {a t b : Int} (hS : SOK D) (a0 : 0 ≤ a) (a1 : a < 8) (t0 : 0 ≤ t) (t1 : t ≤ 1000000) {d : Int → Int} (h : RW D a t d) (b0 : 0 ≤ b) (b1 : b < 8) : d b = way D a b t := (RW_uniq hS a0 a1 t0 t1 h (RW_bf hS a0 a1 t0 t1) b b0 b1).trans (way_def D a b t).symm
theorem way_in {D : sto} {a t b : Int} (hS : SOK D) (t0 : 0 ≤ t) (t1 : t ≤ 1000000) (b0 : 0 ≤ b) (b1 : b < 8) : t ≤ way D a b t ∧ way D a b t ≤ 1000000 := by
  rw [way_def]
  exact bf_in hS t0 t1 7 b b0 b1
