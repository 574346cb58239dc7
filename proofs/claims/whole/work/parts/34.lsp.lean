-- BUILD and LEAST: the pure side (written by wip/whole/gen_lsp.py)
-- build
noncomputable def bld1 (D : sto) (ns nv : Int) (P : pln) : pln := if (fp D ns nv P).1 = -1 then P else pbs D P (fp D ns nv P)
noncomputable def bldN (D : sto) (ns nv : Int) : Nat → pln → pln
  | 0, P => P
  | n + 1, P => bldN D ns nv n (bld1 D ns nv P)
noncomputable def bld (D : sto) (ns nv : Int) (P : pln) : pln := bldN D ns nv 12 P
theorem szP_up {P : pln} {v : Int} {l : List Int} (v0 : 0 ≤ v) (v1 : v < 3) : szP (up P v l) = szP P - ln (P v) + ln l := by
  unfold szP
  have h : v = 0 ∨ v = 1 ∨ v = 2 := by omega
  rcases h with rfl | rfl | rfl
  · rw [up_eq, up_ne (by omega), up_ne (by omega)]; omega
  · rw [up_eq, up_ne (by omega), up_ne (by omega)]; omega
  · rw [up_eq, up_ne (by omega), up_ne (by omega)]; omega
theorem pbs_ok {D : sto} {ns nv : Int} {P : pln} {b : b5} (hO : DOK D ns nv) (hP : PO ns nv P) (hA : AF D nv P) (hg : GB D ns nv P b) (hne : b.1 ≠ -1) : PO ns nv (pbs D P b) ∧ AF D nv (pbs D P b) ∧ szP (pbs D P b) = szP P + (if D 6 b.1 = -1 then 1 else 2) := by
  have hn := hO.1
  obtain ⟨g1, g2, g3, g4, g5, g6⟩ := hg.resolve_left hne
  unfold pbs
  by_cases hm : D 6 b.1 = -1
  · rw [if_pos hm, if_pos hm]
    have g7 := g6.resolve_right (fun q => q.1 hm)
    refine ⟨(row_ok hO hP g3.1 g3.2 g4.1 g4.2 g1.1 g1.2 g2.2).1, (AF_up g3.1 g3.2 hA).mpr g7.2.2, ?_⟩
    rw [szP_up g3.1 (by omega), ln_ins]; omega
  · rw [if_neg hm, if_neg hm]
    have g7 := g6.resolve_left (fun q => hm q.1)
    refine ⟨(row2_ok hO hP hA g3.1 g3.2 g4.1 g4.2 g7.2.1 g7.2.2.1 g1.1 g1.2 g2.2 g2.1 hm).1, (AF_up g3.1 g3.2 hA).mpr g7.2.2.2, ?_⟩
    rw [szP_up g3.1 (by omega)]
    unfold row2
    rw [ln_ins, ln_ins]; omega
section bld
variable {D : sto} {ns nv : Int}
theorem bld1_ok {P : pln} (hO : DOK D ns nv) (hP : PO ns nv P) (hA : AF D nv P) : PO ns nv (bld1 D ns nv P) ∧ AF D nv (bld1 D ns nv P) ∧ szP P ≤ szP (bld1 D ns nv P) ∧ ((fp D ns nv P).1 ≠ -1 → szP P + 1 ≤ szP (bld1 D ns nv P)) := by
  unfold bld1
  by_cases h : (fp D ns nv P).1 = -1
  · rw [if_pos h]; exact ⟨hP, hA, Int.le_refl _, fun q => absurd h q⟩
  · rw [if_neg h]
    obtain ⟨a, b, c⟩ := pbs_ok hO hP hA (GB.fp hO hP hA) h
    rw [c]
    refine ⟨a, b, ?_, fun _ => ?_⟩ <;> split <;> omega
theorem bldN_ok (hO : DOK D ns nv) : ∀ (n : Nat) {P : pln}, PO ns nv P → AF D nv P → PO ns nv (bldN D ns nv n P) ∧ AF D nv (bldN D ns nv n P) := by
  intro n
  induction n with
  | zero => intro P a b; exact ⟨a, b⟩
  | succ n ih => intro P a b; exact ih (bld1_ok hO a b).1 (bld1_ok hO a b).2.1
theorem bldN_none {P : pln} (h : (fp D ns nv P).1 = -1) : ∀ n : Nat, bldN D ns nv n P = P := by
  intro n
  have e : bld1 D ns nv P = P := if_pos h
  induction n with
  | zero => rfl
  | succ n ih => show bldN D ns nv n (bld1 D ns nv P) = P; rw [e]; exact ih
theorem fp_full {P : pln} (hO : DOK D ns nv) (hP : PO ns nv P) (hA : AF D nv P) (h : ns ≤ szP P) : (fp D ns nv P).1 = -1 := by
  rcases GB.fp hO hP hA with q | q
  · exact q
  · have := hP.lt q.1.1 q.1.2 q.2.1.2
    omega
theorem bldN_full (hO : DOK D ns nv) : ∀ (n : Nat) {P : pln}, PO ns nv P → AF D nv P → ns ≤ n + szP P → (fp D ns nv (bldN D ns nv n P)).1 = -1 := by
  intro n
  induction n with
  | zero => intro P a b c; show (fp D ns nv P).1 = -1; exact fp_full hO a b (by omega)
  | succ n ih =>
    intro P a b c
    by_cases h : (fp D ns nv P).1 = -1
    · rw [bldN_none h]; exact h
    · have := bld1_ok hO a b
      exact ih this.1 this.2.1 (by have := this.2.2.2 h; omega)
theorem bldN_s : ∀ (n : Nat) {P : pln}, bldN D ns nv (n + 1) P = bld1 D ns nv (bldN D ns nv n P) := by
  intro n
  induction n with
  | zero => intro P; rfl
  | succ n ih => intro P; exact ih
theorem bld_step {P : pln} (hO : DOK D ns nv) (hP : PO ns nv P) (hA : AF D nv P) : bld D ns nv (bld1 D ns nv P) = bld D ns nv P := by
  have h0 := hO.1
  have h1 := hP.size h0.1
  have h2 := bldN_full hO 12 hP hA (by omega)
  show bldN D ns nv (12 + 1) P = _
  rw [bldN_s]
  exact if_pos h2
theorem bld_none {P : pln} (h : (fp D ns nv P).1 = -1) : bld D ns nv P = P := bldN_none h 12
theorem imp_ok {P : pln} (hO : DOK D ns nv) (hP : PO ns nv P) (h : mvs D ns nv P < ns) : PO ns nv (imp D ns nv P) ∧ AF D nv (imp D ns nv P) ∧ tot D nv (imp D ns nv P) < tot D nv P := by
  have h0 := hO.1
  obtain ⟨a, b⟩ := of_decide_eq_true (fst1_is h)
  have c := of_decide_eq_true (fst1_is b)
  have d := mokb_is (fst1_is c)
  have i0 := fst1_le (p := fun s => decide (vanOf P s ≠ -1 ∧ mvv D nv P s < nv)) h0.1
  have i1 := fst1_le (p := fun v => decide (mvi D nv P (mvs D ns nv P) v < ln (rmv1 P (mvs D ns nv P) v) + 1)) h0.2.2.1
  have hl := ln0 (rmv1 P (mvs D ns nv P) (mvv D nv P (mvs D ns nv P)))
  have i2 := fst1_le (p := mokb D nv P (mvs D ns nv P) (mvv D nv P (mvs D ns nv P))) (n := ln (rmv1 P (mvs D ns nv P) (mvv D nv P (mvs D ns nv P))) + 1) (by omega)
  obtain ⟨p1, p2⟩ := hP.rmv h0.2.2.2 (mvs D ns nv P)
  exact ⟨p1.ins i1.1 b h0.2.2.2 i2.1 (Int.lt_add_one_iff.mp c) i0.1 h p2, d.1, d.2⟩
end bld
-- the order of plans
def dg (l : List Int) (j : Int) : Int := if j < ln l then gt l j else 99
def lxl (l m : List Int) : Prop := ∃ i, 0 ≤ i ∧ (∀ j, 0 ≤ j → j < i → dg l j = dg m j) ∧ dg l i < dg m i
theorem lxl_as {l m : List Int} (h : lxl l m) (g : lxl m l) : False := by
  obtain ⟨i, i0, i1, i2⟩ := h
  obtain ⟨j, j0, j1, j2⟩ := g
  rcases Int.lt_trichotomy i j with q | q | q
  · have := j1 i i0 q; omega
  · subst q; omega
  · have := i1 j j0 q; omega
theorem lxl_tr {l m n : List Int} (h : lxl l m) (g : lxl m n) : lxl l n := by
  obtain ⟨i, i0, i1, i2⟩ := h
  obtain ⟨j, j0, j1, j2⟩ := g
  rcases Int.lt_trichotomy i j with q | q | q
  · exact ⟨i, i0, fun k k0 k1 => (i1 k k0 k1).trans (j1 k k0 (by omega)), by rw [← j1 i i0 q]; exact i2⟩
  · subst q; exact ⟨i, i0, fun k k0 k1 => (i1 k k0 k1).trans (j1 k k0 k1), by omega⟩
  · exact ⟨j, j0, fun k k0 k1 => (i1 k k0 (by omega)).trans (j1 k k0 k1), by rw [i1 j j0 q]; exact j2⟩
theorem lxl_tri {ns : Int} {l m : List Int} (hn : ns ≤ 12) (hl : RV ns l) (hm : RV ns m) (h : ¬ lxl l m) (g : ¬ lxl m l) : l = m := by
  have key : ∀ n : Nat, ∀ j : Int, 0 ≤ j → j < n → dg l j = dg m j := by
    intro n
    induction n with
    | zero => intro j j0 j1; omega
    | succ n ih =>
      intro j j0 j1
      by_cases q : j < n
      · exact ih j j0 q
      · rcases Int.lt_trichotomy (dg l j) (dg m j) with z | z | z
        · exact absurd ⟨j, j0, fun k k0 k1 => ih k k0 (by omega), z⟩ h
        · exact z
        · exact absurd ⟨j, j0, fun k k0 k1 => (ih k k0 (by omega)).symm, z⟩ g
  have key2 : ∀ j : Int, 0 ≤ j → dg l j = dg m j := fun j j0 => key (j.toNat + 1) j j0 (by omega)
  have h0 := ln0 l
  have h1 := ln0 m
  have e : ln l = ln m := by
    rcases Int.lt_trichotomy (ln l) (ln m) with z | z | z
    · have := key2 (ln l) h0
      unfold dg at this
      rw [if_neg (by omega), if_pos z] at this
      have := hm.2 _ h0 z
      omega
    · exact z
    · have := key2 (ln m) h1
      unfold dg at this
      rw [if_pos z, if_neg (by omega)] at this
      have := hl.2 _ h1 z
      omega
  refine ext_gt e (fun j j0 j1 => ?_)
  have := key2 j j0
  unfold dg at this
  rw [if_pos j1, if_pos (by omega)] at this
  exact this
def lxp (nv : Int) (P Q : pln) : Prop := ∃ v, 0 ≤ v ∧ v < nv ∧ (∀ u, 0 ≤ u → u < v → P u = Q u) ∧ lxl (P v) (Q v)
theorem lxl_ir {l : List Int} : ¬ lxl l l := fun h => lxl_as h h
theorem lxp_as {nv : Int} {P Q : pln} (h : lxp nv P Q) (g : lxp nv Q P) : False := by
  obtain ⟨v, v0, v1, v2, v3⟩ := h
  obtain ⟨u, u0, u1, u2, u3⟩ := g
  rcases Int.lt_trichotomy v u with q | q | q
  · rw [u2 v v0 q] at v3; exact lxl_ir v3
  · subst q; exact lxl_as v3 u3
  · rw [v2 u u0 q] at u3; exact lxl_ir u3
theorem lxp_tr {nv : Int} {P Q R : pln} (h : lxp nv P Q) (g : lxp nv Q R) : lxp nv P R := by
  obtain ⟨v, v0, v1, v2, v3⟩ := h
  obtain ⟨u, u0, u1, u2, u3⟩ := g
  rcases Int.lt_trichotomy v u with q | q | q
  · exact ⟨v, v0, v1, fun k k0 k1 => (v2 k k0 k1).trans (u2 k k0 (by omega)), by rw [← u2 v v0 q]; exact v3⟩
  · subst q; exact ⟨v, v0, v1, fun k k0 k1 => (v2 k k0 k1).trans (u2 k k0 k1), lxl_tr v3 u3⟩
  · exact ⟨u, u0, u1, fun k k0 k1 => (v2 k k0 (by omega)).trans (u2 k k0 k1), by rw [v2 u u0 q]; exact u3⟩
theorem lxp_tri {ns nv : Int} {P Q : pln} (hn : ns ≤ 12) (hv : nv ≤ 3) (hP : RVP ns P) (hQ : RVP ns Q) (h : ¬ lxp nv P Q) (g : ¬ lxp nv Q P) : ∀ u, 0 ≤ u → u < nv → P u = Q u := by
  have key : ∀ n : Nat, ∀ u : Int, 0 ≤ u → u < n → u < nv → P u = Q u := by
    intro n
    induction n with
    | zero => intro j j0 j1; omega
    | succ n ih =>
      intro u u0 u1 u2
      by_cases q : u < n
      · exact ih u u0 q u2
      · exact lxl_tri hn (hP u u0 (by omega)) (hQ u u0 (by omega)) (fun z => h ⟨u, u0, u2, fun k k0 k1 => ih k k0 (by omega) (by omega), z⟩) (fun z => g ⟨u, u0, u2, fun k k0 k1 => (ih k k0 (by omega) (by omega)).symm, z⟩)
  intro u u0 u1
  exact key (u.toNat + 1) u u0 (by omega) u1
def lsk (D : sto) (nv : Int) (P Q : pln) : Prop := mp D Q nv < mp D P nv ∨ mp D P nv = mp D Q nv ∧ (szP Q < szP P ∨ szP P = szP Q ∧ tot D nv P < tot D nv Q)
def lss (D : sto) (nv : Int) (P Q : pln) : Prop := lsk D nv P Q ∨ (mp D P nv = mp D Q nv ∧ szP P = szP Q ∧ tot D nv P = tot D nv Q ∧ lxp nv P Q)
def VV (D : sto) (ns nv : Int) (P : pln) : Prop := PO ns nv P ∧ AF D nv P ∧ ∀ u, (u < 0 ∨ nv ≤ u) → P u = []
def LST (D : sto) (ns nv : Int) (P : pln) : Prop := VV D ns nv P ∧ ∀ Q, VV D ns nv Q → ¬ lss D nv Q P
theorem lss_ir {D : sto} {nv : Int} {P : pln} : ¬ lss D nv P P := by
  rintro (h | h)
  · unfold lsk at h; omega
  · exact lxp_as h.2.2.2 h.2.2.2
theorem lss_kt {D : sto} {nv : Int} {P Q R : pln} (h : lss D nv P Q) (g : lsk D nv Q R) : lsk D nv P R := by
  unfold lss lsk at *; omega
theorem lss_tr {D : sto} {nv : Int} {P Q R : pln} (h : lss D nv P Q) (g : lss D nv Q R) : lss D nv P R := by
  rcases g with g | g
  · exact Or.inl (lss_kt h g)
  · rcases h with h | h
    · refine Or.inl ?_
      unfold lsk at *; omega
    · exact Or.inr ⟨by omega, by omega, by omega, lxp_tr h.2.2.2 g.2.2.2⟩
theorem VV.ext {D : sto} {ns nv : Int} {P Q : pln} (hP : VV D ns nv P) (hQ : VV D ns nv Q) (h : ∀ u, 0 ≤ u → u < nv → P u = Q u) : P = Q := by
  funext u
  by_cases e : u < 0 ∨ nv ≤ u
  · rw [hP.2.2 u e, hQ.2.2 u e]
  · exact h u (by omega) (by omega)
theorem LST.uniq {D : sto} {ns nv : Int} {P Q : pln} (hO : DOK D ns nv) (hP : LST D ns nv P) (hQ : LST D ns nv Q) : P = Q := by
  have hn := hO.1
  have h1 := hP.2 Q hQ.1
  have h2 := hQ.2 P hP.1
  refine hP.1.ext hQ.1 ?_
  by_cases h3 : lsk D nv Q P
  · exact absurd (Or.inl h3) h1
  by_cases h4 : lsk D nv P Q
  · exact absurd (Or.inl h4) h2
  have h5 : mp D P nv = mp D Q nv ∧ szP P = szP Q ∧ tot D nv P = tot D nv Q := by unfold lsk at h3 h4; omega
  exact lxp_tri hn.2.1 hn.2.2.2 (hP.1.1.rv hn.1 hn.2.1) (hQ.1.1.rv hn.1 hn.2.1) (fun z => h2 (Or.inr ⟨h5.1, h5.2.1, h5.2.2, z⟩)) (fun z => h1 (Or.inr ⟨h5.1.symm, h5.2.1.symm, h5.2.2.symm, z⟩))
-- what a round's beginning tells
def PX (l m : List Int) : Prop := ln l ≤ ln m ∧ ∀ i, 0 ≤ i → i < ln l → gt m i = gt l i
section PX
variable {D : sto} {ns nv v : Int} {l m : List Int}
theorem PX.hr (h : PX l m) {i : Int} (i0 : 0 ≤ i) (i1 : i ≤ ln l) : hr D m i = hr D l i := by
  unfold Jvm.Pilot.CVanRoundsLaw_law_r5163_1a4499.hr
  by_cases e : i = 0
  · rw [if_pos e, if_pos e]
  · rw [if_neg e, if_neg e, h.2 (i - 1) (by omega) (by omega)]
theorem PX.mt (h : PX l m) : ∀ n : Nat, (n : Int) ≤ ln l → mtN D v m n = mtN D v l n := by
  intro n
  induction n with
  | zero => intro _; rfl
  | succ n ih =>
    intro hn
    show mx (way D (Jvm.Pilot.CVanRoundsLaw_law_r5163_1a4499.hr D m n) (D 1 (gt m n)) (mtN D v m n)) (D 2 (gt m n)) + D 4 (gt m n) = mx (way D (Jvm.Pilot.CVanRoundsLaw_law_r5163_1a4499.hr D l n) (D 1 (gt l n)) (mtN D v l n)) (D 2 (gt l n)) + D 4 (gt l n)
    rw [ih (by omega), h.hr (by omega) (by omega), h.2 n (by omega) (by omega)]
theorem PX.bg (h : PX l m) {i : Int} (i0 : 0 ≤ i) (i1 : i < ln l) : bg D v m i = bg D v l i := by
  unfold Jvm.Pilot.CVanRoundsLaw_law_r5163_1a4499.bg cm Jvm.Pilot.CVanRoundsLaw_law_r5163_1a4499.mt
  rw [h.mt i.toNat (by omega), h.hr i0 (by omega), h.2 i i0 i1]
theorem ld0_up (hO : DOK D ns nv) (hm : RV ns m) : ∀ n k : Nat, ((n + k : Nat) : Int) ≤ ln m → ld0N D m n ≤ ld0N D m (n + k) := by
  intro n k
  induction k with
  | zero => intro _; exact Int.le_refl _
  | succ k ih =>
    intro h
    have h1 := ih (by omega)
    have h2 : ld0N D m (n + (k + 1)) = ld0N D m (n + k) + (if D 0 (gt m ((n + k : Nat) : Int)) = 1 ∨ D 0 (gt m ((n + k : Nat) : Int)) = 2 then 0 else D 5 (gt m ((n + k : Nat) : Int))) := rfl
    have h3 := hm.2 ((n + k : Nat) : Int) (by omega) (by omega)
    have h4 := (hO.2.1 _ h3.1 h3.2).2.2.2.2.1
    rw [h2]
    split <;> omega
theorem PX.ld (h : PX l m) : ∀ n : Nat, (n : Int) ≤ ln l → ld0N D m n = ld0N D l n := by
  intro n
  induction n with
  | zero => intro _; rfl
  | succ n ih =>
    intro hn
    show ld0N D m n + (if D 0 (gt m n) = 1 ∨ D 0 (gt m n) = 2 then 0 else D 5 (gt m n)) = ld0N D l n + (if D 0 (gt l n) = 1 ∨ D 0 (gt l n) = 2 then 0 else D 5 (gt l n))
    rw [ih (by omega), h.2 n (by omega) (by omega)]
theorem PX.ld0 (h : PX l m) (hO : DOK D ns nv) (hm : RV ns m) : ld0 D l ≤ ld0 D m := by
  unfold Jvm.Pilot.CVanRoundsLaw_law_r5163_1a4499.ld0
  have h1 : (l.length : Int) ≤ m.length := h.1
  have h2 := h.ld (D := D) l.length (Int.le_refl _)
  have h3 := ld0_up hO hm l.length (m.length - l.length) (by show _ ≤ (m.length : Int); omega)
  rw [show l.length + (m.length - l.length) = m.length by omega] at h3
  omega
theorem PX.lda (h : PX l m) (hO : DOK D ns nv) (hm : RV ns m) : ∀ n : Nat, (n : Int) ≤ ln l → ldN D l n ≤ ldN D m n := by
  intro n
  induction n with
  | zero => intro _; exact h.ld0 hO hm
  | succ n ih =>
    intro hn
    show ldN D l n + (if D 0 (gt l n) = 1 then D 5 (gt l n) else - D 5 (gt l n)) ≤ ldN D m n + (if D 0 (gt m n) = 1 then D 5 (gt m n) else - D 5 (gt m n))
    rw [h.2 n (by omega) (by omega)]
    have := ih (by omega)
    omega
/-- neither overload nor being late is mended by stops behind -/
theorem PX.no (h : PX l m) (hO : DOK D ns nv) (hm : RV ns m) (hw : whyOf D v l = 2 ∨ whyOf D v l = 3) : whyOf D v m ≠ 0 := by
  intro h0
  have l0 := ln0 l
  have q := h.1
  have hl : ln l ≠ 0 := fun e => by unfold whyOf at hw; rw [if_pos e] at hw; omega
  rcases why_0 h0 with e | ⟨e, h1, h2, h3, h4, h5⟩
  · omega
  · have k1 := h.ld0 hO hm
    have p2 : fst1 (pr2 D v l) (ln l) = ln l := fst1_none l0 (fun j j0 j1 => by
      have := fst1_lt (p := pr2 D v m) (n := ln m) (j := j) j0 (by rw [h3]; omega)
      have := of_decide_eq_false this
      refine decide_eq_false ?_
      have := h.lda hO hm (j + 1).toNat (by omega)
      unfold Jvm.Pilot.CVanRoundsLaw_law_r5163_1a4499.lda at *
      omega)
    have p3 : fst1 (pr3 D v l) (ln l) = ln l := fst1_none l0 (fun j j0 j1 => by
      have := fst1_lt (p := pr3 D v m) (n := ln m) (j := j) j0 (by rw [h4]; omega)
      have := of_decide_eq_false this
      rw [h.bg j0 j1, h.2 j j0 j1] at this
      exact decide_eq_false this)
    unfold whyOf at hw
    rw [if_neg hl] at hw
    split at hw
    · omega
    · rw [if_neg (by omega), p2, if_neg (by omega), p3, if_neg (by omega)] at hw
      split at hw <;> omega
end PX
-- the plans that begin as a draft does
def Cmp (D : sto) (ns nv : Int) (P : pln) (v : Int) (Q : pln) : Prop := VV D ns nv Q ∧ (∀ u, 0 ≤ u → u < v → Q u = P u) ∧ PX (P v) (Q v)
/-- a draft that is filled van by van -/
def XS (D : sto) (ns nv : Int) (P : pln) (v : Int) : Prop := PO ns nv P ∧ (0 ≤ v ∧ v < nv) ∧ (∀ u, 0 ≤ u → u < v → whyOf D u (P u) = 0) ∧ ∀ u, (u < 0 ∨ v < u) → P u = []
def kid (P : pln) (v s : Int) : pln := up P v (insA (P v) (ln (P v)) s)
section Cmp
variable {D : sto} {ns nv v s t : Int} {P Q R : pln}
theorem XS.kid (h : XS D ns nv P v) (hO : DOK D ns nv) (s0 : 0 ≤ s) (s1 : s < ns) (hs : s ∉ al3 P) : XS D ns nv (kid P v s) v ∧ szP (kid P v s) = szP P + 1 ∧ ln (P v) < 12 := by
  have hn := hO.1
  have hl := ln0 (P v)
  obtain ⟨o1, o2, o3, o4⟩ := row_ok hO h.1 h.2.1.1 h.2.1.2 hl (Int.le_refl _) s0 s1 hs
  refine ⟨⟨o1, h.2.1, fun u u0 u1 => ?_, fun u hu => ?_⟩, ?_, o4⟩
  · show whyOf D u (up P v _ u) = 0
    rw [up_ne (by omega)]; exact h.2.2.1 u u0 u1
  · show up P v _ u = []
    rw [up_ne (by have := h.2.1; omega)]; exact h.2.2.2 u hu
  · show szP (up P v _) = _
    rw [szP_up h.2.1.1 (by have := h.2.1; omega), ln_ins]; omega
theorem kid_px {m : List Int} : PX (kid P v s v) m ↔ PX (P v) m ∧ ln (P v) < ln m ∧ gt m (ln (P v)) = s := by
  have hl := ln0 (P v)
  unfold kid
  rw [up_eq]
  unfold PX
  rw [ln_ins]
  constructor
  · rintro ⟨a, b⟩
    have c := b (ln (P v)) hl (by omega)
    rw [gt_ins hl (by omega), if_neg (by omega), if_pos rfl] at c
    refine ⟨⟨by omega, fun i i0 i1 => ?_⟩, by omega, c⟩
    rw [b i i0 (by omega), gt_ins i0 (by omega), if_pos i1]
  · rintro ⟨⟨a, b⟩, c, d⟩
    refine ⟨by omega, fun i i0 i1 => ?_⟩
    rw [gt_ins i0 (by omega)]
    by_cases e : i = ln (P v)
    · rw [if_neg (by omega), if_pos e, e, d]
    · rw [if_pos (by omega)]; exact b i i0 (by omega)
theorem Cmp.up (h : Cmp D ns nv (kid P v s) v Q) : Cmp D ns nv P v Q := by
  refine ⟨h.1, fun u u0 u1 => ?_, (kid_px.mp h.2.2).1⟩
  rw [h.2.1 u u0 u1]; exact up_ne (by omega)
theorem Cmp.split (h : Cmp D ns nv P v Q) (hx : XS D ns nv P v) (hO : DOK D ns nv) : Q v = P v ∨ ∃ t, 0 ≤ t ∧ t < ns ∧ t ∉ al3 P ∧ Cmp D ns nv (kid P v t) v Q := by
  have hn := hO.1
  have hv := hx.2.1
  have hl := ln0 (P v)
  by_cases e : ln (Q v) = ln (P v)
  · exact Or.inl (ext_gt e (fun j j0 j1 => h.2.2.2 j j0 (by omega)))
  · have hlt : ln (P v) < ln (Q v) := by have := h.2.2.1; omega
    have hin : gt (Q v) (ln (P v)) ∈ Q v := gt_mem hl hlt
    have hq := h.1.1.2.1 _ (mem_al3.mpr ⟨v, hv.1, by omega, hin⟩)
    refine Or.inr ⟨gt (Q v) (ln (P v)), hq.1, hq.2, fun hz => ?_, h.1, fun u u0 u1 => ?_, kid_px.mpr ⟨h.2.2, hlt, rfl⟩⟩
    · obtain ⟨u, u0, u1, hu⟩ := mem_al3.mp hz
      rcases Int.lt_trichotomy u v with q | q | q
      · rw [← h.2.1 u u0 q] at hu
        have := h.1.1.uniq u0 u1 hv.1 (by omega) hu hin
        omega
      · subst q
        obtain ⟨j, j0, j1, j2⟩ := mem_gt.mp hu
        rw [← h.2.2.2 j j0 j1] at j2
        have := nodup_gt (h.1.1.row u0 u1) j0 (by omega) hl hlt j2
        omega
      · rw [hx.2.2.2 u (Or.inr q)] at hu; cases hu
    · rw [h.2.1 u u0 u1]; exact (up_ne (by omega)).symm
theorem Cmp.lt (h : Cmp D ns nv (kid P v s) v Q) (g : Cmp D ns nv (kid P v t) v R) (hv : 0 ≤ v ∧ v < nv) (hst : s < t) : lxp nv Q R := by
  have a := kid_px.mp h.2.2
  have b := kid_px.mp g.2.2
  refine ⟨v, hv.1, hv.2, fun u u0 u1 => ?_, ln (P v), ln0 _, fun j j0 j1 => ?_, ?_⟩
  · rw [h.2.1 u u0 u1, g.2.1 u u0 u1]
    unfold Jvm.Pilot.CVanRoundsLaw_law_r5163_1a4499.kid
    rw [up_ne (by omega), up_ne (by omega)]
  · unfold dg
    rw [if_pos (by omega), if_pos (by omega), a.1.2 j j0 j1, b.1.2 j j0 j1]
  · unfold dg
    rw [if_pos a.2.1, if_pos b.2.1, a.2.2, b.2.2]
    exact hst
theorem Cmp.end (h : Cmp D ns nv (kid P v s) v Q) (hR : ∀ u, 0 ≤ u → u < v + 1 → R u = P u) (hv : 0 ≤ v ∧ v < nv) (hs : s < 99) : lxp nv Q R := by
  have a := kid_px.mp h.2.2
  refine ⟨v, hv.1, hv.2, fun u u0 u1 => ?_, ln (P v), ln0 _, fun j j0 j1 => ?_, ?_⟩
  · rw [h.2.1 u u0 u1, hR u u0 (by omega)]
    unfold Jvm.Pilot.CVanRoundsLaw_law_r5163_1a4499.kid
    rw [up_ne (by omega)]
  · unfold dg
    rw [hR v hv.1 (by omega), if_pos (by omega), if_pos j1, a.1.2 j j0 j1]
  · unfold dg
    rw [hR v hv.1 (by omega), if_pos a.2.1, if_neg (by omega), a.2.2]
    exact hs
theorem XS.leaf (h : XS D ns nv P v) (hv : v + 1 = nv) (hw : whyOf D v (P v) = 0) : VV D ns nv P := by
  refine ⟨h.1, fun u u0 u1 => ?_, fun u hu => h.2.2.2 u (by omega)⟩
  by_cases e : u = v
  · rw [e]; exact hw
  · exact h.2.2.1 u u0 (by omega)
theorem XS.next (h : XS D ns nv P v) (hv : v + 1 < nv) (hw : whyOf D v (P v) = 0) : XS D ns nv P (v + 1) := by
  refine ⟨h.1, by have := h.2.1; omega, fun u u0 u1 => ?_, fun u hu => h.2.2.2 u (by omega)⟩
  by_cases e : u = v
  · rw [e]; exact hw
  · exact h.2.2.1 u u0 (by omega)
theorem Cmp.next (hx : XS D ns nv P v) : Cmp D ns nv P (v + 1) Q ↔ Cmp D ns nv P v Q ∧ Q v = P v := by
  have h0 := hx.2.1
  constructor
  · rintro ⟨a, b, c⟩
    have d := b v h0.1 (by omega)
    exact ⟨⟨a, fun u u0 u1 => b u u0 (by omega), by rw [d]; exact ⟨Int.le_refl _, fun _ _ _ => rfl⟩⟩, d⟩
  · rintro ⟨⟨a, b, c⟩, d⟩
    refine ⟨a, fun u u0 u1 => ?_, ?_⟩
    · by_cases e : u = v
      · rw [e]; exact d
      · exact b u u0 (by omega)
    · rw [hx.2.2.2 (v + 1) (by omega)]
      exact ⟨ln0 _, fun i i0 i1 => by have : i < 0 := i1; omega⟩
end Cmp
