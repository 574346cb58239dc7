-- BUILD: the put by which cost grows least (walks written by wip/whole/gen_bld.py)
abbrev b5 : Type := Int × Int × Int × Int × Int
/-- of two puts the one that is kept: stop, van, place, place of the drop, growth -/
def wgh (b c : b5) : b5 := if b.1 ≠ -1 ∧ b.2.2.2.2 ≤ c.2.2.2.2 then b else c
noncomputable def w1 (D : sto) (P : pln) (s v : Int) (b : b5) (i : Int) : b5 := if whyOf D v (insA (P v) i s) = 0 then wgh b (s, v, i, -1, cst D v (insA (P v) i s) - cst D v (P v)) else b
noncomputable def tp1N (D : sto) (P : pln) (s v : Int) (b : b5) : Nat → b5
  | 0 => b
  | n + 1 => w1 D P s v (tp1N D P s v b n) n
def row2 (D : sto) (P : pln) (s v i j : Int) : List Int := insA (insA (P v) i s) j (D 6 s)
noncomputable def w2 (D : sto) (P : pln) (s v i : Int) (b : b5) (j : Int) : b5 := if whyOf D v (row2 D P s v i j) = 0 then wgh b (s, v, i, j, cst D v (row2 D P s v i j) - cst D v (P v)) else b
noncomputable def tjN (D : sto) (P : pln) (s v i : Int) (b : b5) : Nat → b5
  | 0 => b
  | n + 1 => w2 D P s v i (tjN D P s v i b n) n
noncomputable def tp2N (D : sto) (P : pln) (s v : Int) (b : b5) : Nat → b5
  | 0 => b
  | n + 1 => tjN D P s v n (tp2N D P s v b n) (ln (P v) + 2).toNat
noncomputable def tp (D : sto) (P : pln) (s v : Int) (b : b5) : b5 := if D 6 s = -1 then tp1N D P s v b (ln (P v) + 1).toNat else tp2N D P s v b (ln (P v) + 1).toNat
noncomputable def fvN (D : sto) (P : pln) (s : Int) (b : b5) : Nat → b5
  | 0 => b
  | n + 1 => tp D P s n (fvN D P s b n)
noncomputable def fs (D : sto) (nv : Int) (P : pln) (b : b5) (s : Int) : b5 := if D 0 s = 2 ∨ s ∈ al3 P then b else fvN D P s b nv.toNat
noncomputable def fpN (D : sto) (nv : Int) (P : pln) (b : b5) : Nat → b5
  | 0 => b
  | n + 1 => fs D nv P (fpN D nv P b n) n
noncomputable def fp (D : sto) (ns nv : Int) (P : pln) : b5 := fpN D nv P (-1, 0, 0, 0, 0) ns.toNat
theorem nS (f : Nat → b5) (g : b5 → Int → b5) (h : ∀ n : Nat, f (n + 1) = g (f n) n) {i : Int} (i0 : 0 ≤ i) : f (i + 1).toNat = g (f i.toNat) i := by
  rw [show (i + 1).toNat = i.toNat + 1 by omega, h, show ((i.toNat : Nat) : Int) = i by omega]
/-- a put that is kept is one that there is -/
def GB (D : sto) (ns nv : Int) (P : pln) (b : b5) : Prop := b.1 = -1 ∨ ((0 ≤ b.1 ∧ b.1 < ns) ∧ (D 0 b.1 ≠ 2 ∧ b.1 ∉ al3 P) ∧ (0 ≤ b.2.1 ∧ b.2.1 < nv) ∧ (0 ≤ b.2.2.1 ∧ b.2.2.1 ≤ ln (P b.2.1)) ∧ (-60000 ≤ b.2.2.2.2 ∧ b.2.2.2.2 ≤ 60000) ∧
  ((D 6 b.1 = -1 ∧ b.2.2.2.1 = -1 ∧ whyOf D b.2.1 (insA (P b.2.1) b.2.2.1 b.1) = 0) ∨ (D 6 b.1 ≠ -1 ∧ 0 ≤ b.2.2.2.1 ∧ b.2.2.2.1 ≤ ln (P b.2.1) + 1 ∧ whyOf D b.2.1 (row2 D P b.1 b.2.1 b.2.2.1 b.2.2.2.1) = 0)))
theorem GB.wgh {D : sto} {ns nv : Int} {P : pln} {b c : b5} (hb : GB D ns nv P b) (hc : GB D ns nv P c) : GB D ns nv P (wgh b c) := by
  unfold Jvm.Pilot.CVanRoundsLaw_law_r5163_1a4499.wgh
  split
  · exact hb
  · exact hc
section GB
variable {D : sto} {ns nv : Int} {P : pln} (hO : DOK D ns nv) (hP : PO ns nv P) (hA : AF D nv P)
theorem pair_out (hO : DOK D ns nv) (hP : PO ns nv P) (hA : AF D nv P) {s : Int} (s0 : 0 ≤ s) (s1 : s < ns) (hs : s ∉ al3 P) (hk : D 0 s ≠ 2) (hm : D 6 s ≠ -1) : D 0 s = 1 ∧ 0 ≤ D 6 s ∧ D 6 s < ns ∧ D 0 (D 6 s) = 2 ∧ D 6 (D 6 s) = s ∧ D 6 s ∉ al3 P ∧ D 6 s ≠ s := by
  have hd := hO.2.1 s s0 s1
  have h2 := (hO.2.2.1 s s0 s1).1 (by omega)
  have hn := hO.1
  have hdm : D 0 s = 1 ∧ D 0 (D 6 s) = 2 := by omega
  refine ⟨hdm.1, by omega, hd.2.2.2.2.2.1.2, hdm.2, h2.1, fun hin => ?_, fun e => by rw [e] at hdm; omega⟩
  obtain ⟨v, v0, v1, hv⟩ := mem_al3.mp hin
  have hvn : v < nv := by
    rcases Int.lt_or_le v nv with q | q
    · exact q
    · rw [hP.2.2 v q v0 v1] at hv; cases hv
  rcases why_0 (hA v v0 hvn) with e | ⟨e, h1, -⟩
  · obtain ⟨i, i0, i1, -⟩ := mem_gt.mp hv
    omega
  · obtain ⟨i, i0, i1, i2⟩ := mem_gt.mp hv
    have := fst1_lt (p := pr1 D (P v)) (n := ln (P v)) i0 (by rw [h1]; exact i1)
    have := of_decide_eq_false this
    rw [i2, h2.1] at this
    refine this (Or.inl ⟨hdm.2, fun hq => ?_⟩)
    exact hs (mem_al3.mpr ⟨v, v0, v1, List.mem_of_mem_take hq⟩)
theorem row_ok (hO : DOK D ns nv) (hP : PO ns nv P) {v i s : Int} (v0 : 0 ≤ v) (v1 : v < nv) (i0 : 0 ≤ i) (i1 : i ≤ ln (P v)) (s0 : 0 ≤ s) (s1 : s < ns) (hs : s ∉ al3 P) : PO ns nv (up P v (insA (P v) i s)) ∧ RVP ns (up P v (insA (P v) i s)) ∧ RV ns (insA (P v) i s) ∧ ln (P v) < 12 := by
  have hn := hO.1
  have h1 := hP.ins v0 v1 hn.2.2.2 i0 i1 s0 s1 hs
  have h2 := h1.rv hn.1 hn.2.1
  have h3 := h2 v v0 (by omega)
  rw [up_eq] at h3
  have h4 := hP.lt s0 s1 hs
  have h5 := szP_le P v0 (show v < 3 by omega)
  exact ⟨h1, h2, h3, by omega⟩
theorem ins_mem {v i s x : Int} (v0 : 0 ≤ v) (v1 : v < 3) (i0 : 0 ≤ i) (i1 : i ≤ ln (P v)) : x ∈ al3 (up P v (insA (P v) i s)) ↔ x = s ∨ x ∈ al3 P := by
  obtain ⟨r, h1, h2⟩ := al3_up (P := P) v0 v1
  rw [(h2 _).mem_iff, h1.mem_iff, List.mem_append, List.mem_append, mem_ins i0 i1, or_assoc]
theorem up_up {v : Int} {a b : List Int} : up (up P v a) v b = up P v b := by
  funext u
  unfold up
  by_cases e : u = v
  · rw [if_pos e, if_pos e]
  · rw [if_neg e, if_neg e, if_neg e]
theorem row2_ok (hO : DOK D ns nv) (hP : PO ns nv P) (hA : AF D nv P) {v i j s : Int} (v0 : 0 ≤ v) (v1 : v < nv) (i0 : 0 ≤ i) (i1 : i ≤ ln (P v)) (j0 : 0 ≤ j) (j1 : j ≤ ln (P v) + 1) (s0 : 0 ≤ s) (s1 : s < ns) (hs : s ∉ al3 P) (hk : D 0 s ≠ 2) (hm : D 6 s ≠ -1) : PO ns nv (up P v (row2 D P s v i j)) ∧ RVP ns (up P v (row2 D P s v i j)) ∧ RV ns (row2 D P s v i j) ∧ ln (P v) + 1 < 12 := by
  have hn := hO.1
  obtain ⟨p1, p2, p3, p4, p5, p6, p7⟩ := pair_out hO hP hA s0 s1 hs hk hm
  obtain ⟨h1, h2, h3, h4⟩ := row_ok hO hP v0 v1 i0 i1 s0 s1 hs
  have hx : D 6 s ∉ al3 (up P v (insA (P v) i s)) := fun q => by
    rcases (ins_mem v0 (by omega) i0 i1).mp q with q | q
    · exact p7 q
    · exact p6 q
  have h5 := row_ok hO h1 (v := v) (i := j) (s := D 6 s) v0 v1 j0 (by rw [up_eq, ln_ins]; omega) p2 p3 hx
  rw [up_eq, up_up, ln_ins] at h5
  exact h5
theorem GB.c1 (hO : DOK D ns nv) (hP : PO ns nv P) (hA : AF D nv P) {v i s : Int} (v0 : 0 ≤ v) (v1 : v < nv) (i0 : 0 ≤ i) (i1 : i ≤ ln (P v)) (s0 : 0 ≤ s) (s1 : s < ns) (hs : s ∉ al3 P) (hk : D 0 s ≠ 2) (hm : D 6 s = -1) {b : b5} (hb : GB D ns nv P b) : GB D ns nv P (w1 D P s v b i) := by
  unfold w1
  split
  · next hw =>
    have hr := (row_ok hO hP v0 v1 i0 i1 s0 s1 hs).2.2.1
    have hl := (hP.rv hO.1.1 hO.1.2.1) v v0 (by have := hO.1; omega)
    have c1 := cst_in hO hr v0 v1 hw
    have c2 := cst_in hO hl v0 v1 (hA v v0 v1)
    exact hb.wgh (Or.inr ⟨⟨s0, s1⟩, ⟨hk, hs⟩, ⟨v0, v1⟩, ⟨i0, i1⟩, ⟨by show -60000 ≤ cst D v (insA (P v) i s) - cst D v (P v); omega, by show cst D v (insA (P v) i s) - cst D v (P v) ≤ 60000; omega⟩, Or.inl ⟨hm, rfl, hw⟩⟩)
  · exact hb
theorem GB.c2 (hO : DOK D ns nv) (hP : PO ns nv P) (hA : AF D nv P) {v i j s : Int} (v0 : 0 ≤ v) (v1 : v < nv) (i0 : 0 ≤ i) (i1 : i ≤ ln (P v)) (j0 : 0 ≤ j) (j1 : j ≤ ln (P v) + 1) (s0 : 0 ≤ s) (s1 : s < ns) (hs : s ∉ al3 P) (hk : D 0 s ≠ 2) (hm : D 6 s ≠ -1) {b : b5} (hb : GB D ns nv P b) : GB D ns nv P (w2 D P s v i b j) := by
  unfold w2
  split
  · next hw =>
    have hr := (row2_ok hO hP hA v0 v1 i0 i1 j0 j1 s0 s1 hs hk hm).2.2.1
    have hl := (hP.rv hO.1.1 hO.1.2.1) v v0 (by have := hO.1; omega)
    have c1 := cst_in hO hr v0 v1 hw
    have c2 := cst_in hO hl v0 v1 (hA v v0 v1)
    exact hb.wgh (Or.inr ⟨⟨s0, s1⟩, ⟨hk, hs⟩, ⟨v0, v1⟩, ⟨i0, i1⟩, ⟨by show -60000 ≤ cst D v (row2 D P s v i j) - cst D v (P v); omega, by show cst D v (row2 D P s v i j) - cst D v (P v) ≤ 60000; omega⟩, Or.inr ⟨hm, j0, j1, hw⟩⟩)
  · exact hb
theorem GB.tj (hO : DOK D ns nv) (hP : PO ns nv P) (hA : AF D nv P) {v i s : Int} (v0 : 0 ≤ v) (v1 : v < nv) (i0 : 0 ≤ i) (i1 : i ≤ ln (P v)) (s0 : 0 ≤ s) (s1 : s < ns) (hs : s ∉ al3 P) (hk : D 0 s ≠ 2) (hm : D 6 s ≠ -1) {b : b5} (hb : GB D ns nv P b) (n : Nat) (hn : (n : Int) ≤ ln (P v) + 2) : GB D ns nv P (tjN D P s v i b n) := by
  induction n with
  | zero => exact hb
  | succ n ih => exact GB.c2 hO hP hA v0 v1 i0 i1 (by omega) (by omega) s0 s1 hs hk hm (ih (by omega))
theorem GB.tp (hO : DOK D ns nv) (hP : PO ns nv P) (hA : AF D nv P) {v s : Int} (v0 : 0 ≤ v) (v1 : v < nv) (s0 : 0 ≤ s) (s1 : s < ns) (hs : s ∉ al3 P) (hk : D 0 s ≠ 2) {b : b5} (hb : GB D ns nv P b) : GB D ns nv P (tp D P s v b) := by
  have hl := ln0 (P v)
  unfold Jvm.Pilot.CVanRoundsLaw_law_r5163_1a4499.tp
  split
  · next hm =>
    have key : ∀ n : Nat, (n : Int) ≤ ln (P v) + 1 → GB D ns nv P (tp1N D P s v b n) := by
      intro n
      induction n with
      | zero => intro _; exact hb
      | succ n ih => intro hn; exact GB.c1 hO hP hA v0 v1 (by omega) (by omega) s0 s1 hs hk hm (ih (by omega))
    exact key _ (by omega)
  · next hm =>
    have key : ∀ n : Nat, (n : Int) ≤ ln (P v) + 1 → GB D ns nv P (tp2N D P s v b n) := by
      intro n
      induction n with
      | zero => intro _; exact hb
      | succ n ih => intro hn; exact GB.tj hO hP hA v0 v1 (by omega) (by omega) s0 s1 hs hk hm (ih (by omega)) _ (by omega)
    exact key _ (by omega)
theorem GB.fv (hO : DOK D ns nv) (hP : PO ns nv P) (hA : AF D nv P) {s : Int} (s0 : 0 ≤ s) (s1 : s < ns) (hs : s ∉ al3 P) (hk : D 0 s ≠ 2) {b : b5} (hb : GB D ns nv P b) (n : Nat) (hn : (n : Int) ≤ nv) : GB D ns nv P (fvN D P s b n) := by
  induction n with
  | zero => exact hb
  | succ n ih => exact GB.tp hO hP hA (by omega) (by omega) s0 s1 hs hk (ih (by omega))
theorem GB.fpN (hO : DOK D ns nv) (hP : PO ns nv P) (hA : AF D nv P) {b : b5} (hb : GB D ns nv P b) (n : Nat) (hn : (n : Int) ≤ ns) : GB D ns nv P (fpN D nv P b n) := by
  induction n with
  | zero => exact hb
  | succ n ih =>
    show GB D ns nv P (fs D nv P _ n)
    unfold fs
    split
    · exact ih (by omega)
    · next h =>
      have hn0 := hO.1
      exact GB.fv hO hP hA (by omega) (by omega) (fun q => h (Or.inr q)) (fun q => h (Or.inl q)) (ih (by omega)) _ (by omega)
theorem GB.fp (hO : DOK D ns nv) (hP : PO ns nv P) (hA : AF D nv P) : GB D ns nv P (fp D ns nv P) := by
  have := hO.1
  exact GB.fpN hO hP hA (Or.inl rfl) _ (by omega)
/-- a drop ahead of its fetch doesn't fit -/
theorem tj_skip (hO : DOK D ns nv) (hP : PO ns nv P) (hA : AF D nv P) {v i s : Int} (v0 : 0 ≤ v) (v1 : v < nv) (i0 : 0 ≤ i) (i1 : i ≤ ln (P v)) (s0 : 0 ≤ s) (s1 : s < ns) (hs : s ∉ al3 P) (hk : D 0 s ≠ 2) (hm : D 6 s ≠ -1) (b : b5) : ∀ n : Nat, (n : Int) ≤ i + 1 → tjN D P s v i b n = b := by
  intro n
  induction n with
  | zero => intro _; rfl
  | succ n ih =>
    intro hn
    show w2 D P s v i (tjN D P s v i b n) n = b
    rw [ih (by omega)]
    unfold w2
    rw [if_neg]
    intro hw
    obtain ⟨p1, p2, p3, p4, p5, p6, p7⟩ := pair_out hO hP hA s0 s1 hs hk hm
    have hl2 : ln (row2 D P s v i n) = ln (P v) + 2 := by unfold row2; rw [ln_ins, ln_ins]; omega
    have hg : gt (row2 D P s v i n) n = D 6 s := by
      unfold row2
      rw [gt_ins (by omega) (by rw [ln_ins]; omega), if_neg (by omega), if_pos rfl]
    have hl := ln0 (P v)
    rcases why_0 hw with e | ⟨e, h1, -⟩
    · omega
    · have h2 := fst1_lt (p := pr1 D (row2 D P s v i n)) (n := ln (row2 D P s v i n)) (j := n) (by omega) (by omega)
      have h3 := of_decide_eq_false h2
      rw [hg, p5] at h3
      refine h3 (Or.inl ⟨p4, fun hq => ?_⟩)
      obtain ⟨k, k0, k1, k2⟩ := (mem_take (by omega) (by omega)).mp hq
      unfold row2 at k2
      rw [gt_ins k0 (by rw [ln_ins]; omega), if_pos k1, gt_ins k0 (by omega), if_pos (by omega)] at k2
      exact hs (mem_al3.mpr ⟨v, v0, by have := hO.1; omega, by rw [← k2]; exact gt_mem k0 (by omega)⟩)
end GB
/-- what the planner's methods leave as it is -/
def PF (σ σ' : sto) : Prop := ∀ c i : Int, (c = 0 ∨ 3 ≤ c ∧ c ≤ 6 ∨ 9 ≤ c ∧ c ≤ 22 ∨ 39 ≤ c) → σ' c i = σ c i
theorem PF.rf {σ : sto} : PF σ σ := fun _ _ _ => rfl
theorem PF.tr {σ σ' σ'' : sto} (h : PF σ σ') (g : PF σ' σ'') : PF σ σ'' := fun c i q => (g c i q).trans (h c i q)
theorem JF.pf {σ σ' : sto} (h : JF σ σ') : PF σ σ' := fun c i q => h c i (by omega) (by omega) (by omega) (by omega)
theorem FP.pf {σ σ' : sto} (h : FP 27 σ σ') : PF σ σ' := fun c i q => h c i (by omega)
theorem PF.c1 {σ σ' : sto} (h : ∀ c i, c ≠ 1 → σ' c i = σ c i) : PF σ σ' := fun c i q => h c i (by omega)
theorem PF.dc {σ σ' D : sto} {ns nv : Int} (h : PF σ σ') (hC : DC σ D ns nv) : DC σ' D ns nv := hC.keep (fun c i q => h c i (by omega))
theorem FP.tc {σ σ' D : sto} {B p : Int} (h : FP p σ σ') (hp : isPl p) (hT : TC σ D B) : TC σ' D B := by
  have := pl_in hp
  exact hT.keep (fun c i q => h c i (by omega))
/-- the planner's put -/
def FB (σ : sto) (b : b5) : Prop := σ 1 4 = b.1 ∧ (b.1 ≠ -1 → σ 1 5 = b.2.1 ∧ σ 1 6 = b.2.2.1 ∧ σ 1 7 = b.2.2.2.1 ∧ σ 1 8 = b.2.2.2.2)
theorem FB.keep {σ σ' : sto} {b : b5} (h : FB σ b) (hF : ∀ i, σ' 1 i = σ 1 i) : FB σ' b := by
  unfold FB at *
  rw [hF, hF, hF, hF, hF]
  exact h
theorem JF.fb {σ σ' : sto} {b : b5} (h : JF σ σ') (hb : FB σ b) : FB σ' b := hb.keep (fun i => h 1 i (by omega) (by omega) (by omega) (by omega))
theorem FP.fb {σ σ' : sto} {b : b5} (h : FP 27 σ σ') (hb : FB σ b) : FB σ' b := hb.keep (fun i => h 1 i (by omega))
theorem ct_weighPut {σ : sto} {s v i j e f : Int} {b : b5} (he : σ 2 9 = e) (h1 : -60000 ≤ e - f ∧ e - f ≤ 60000) (hb : FB σ b) (hg : b.1 = -1 ∨ (0 ≤ b.1 ∧ b.1 < 12) ∧ -60000 ≤ b.2.2.2.2 ∧ b.2.2.2.2 ≤ 60000) : CV M_Planner_weighPut 0 [vR 1, vI s, vI v, vI i, vI j, vI f] σ (fun σ' => FB σ' (wgh b (s, v, i, j, e - f)) ∧ ∀ c k, c ≠ 1 → σ' c k = σ c k) := by
  have hb0 := hb.1
  have fin : (b.1 = -1 ∨ e - f < b.2.2.2.2) → FB (wr (wr (wr (wr (wr σ 1 4 s) 1 5 v) 1 6 i) 1 7 j) 1 8 (e - f)) (wgh b (s, v, i, j, e - f)) ∧ ∀ c k, c ≠ 1 → wr (wr (wr (wr (wr σ 1 4 s) 1 5 v) 1 6 i) 1 7 j) 1 8 (e - f) c k = σ c k := fun h => by
    refine ⟨?_, fun c k hc => by rw [wr_ne (Or.inl hc), wr_ne (Or.inl hc), wr_ne (Or.inl hc), wr_ne (Or.inl hc), wr_ne (Or.inl hc)]⟩
    unfold wgh
    rw [if_neg (by rintro ⟨h1, h2⟩; have h3 : b.2.2.2.2 ≤ e - f := h2; omega)]
    refine ⟨by rw [wr_ne (by omega), wr_ne (by omega), wr_ne (by omega), wr_ne (by omega), wr_eq], fun _ => ⟨by rw [wr_ne (by omega), wr_ne (by omega), wr_ne (by omega), wr_eq], by rw [wr_ne (by omega), wr_ne (by omega), wr_eq], by rw [wr_ne (by omega), wr_eq], wr_eq⟩⟩
  refine cv_of [vR 1, vI s, vI v, vI i, vI j, vI f, vU] fy_Planner_weighPut.1 rfl (Nat.le_of_ble_eq_true rfl) ?_
  refine r_aload_n 0 d_Planner_weighPut_0 rfl rfl ?_
  refine r_getR 2 d_Planner_weighPut_1 fk_Planner_12 rfl rfl rfl (by decide) ?_
  refine r_getI 9 d_Planner_weighPut_4 fk_Planner_86 rfl rfl rfl ?_
  rw [he]
  refine r_iload 5 d_Planner_weighPut_7 rfl ?_
  refine r_isub d_Planner_weighPut_9 ?_
  refine r_istore 6 d_Planner_weighPut_10 (by decide) rfl ?_
  refine r_aload_n 0 d_Planner_weighPut_12 rfl rfl ?_
  refine r_getI 4 d_Planner_weighPut_13 fk_Planner_38 rfl rfl rfl ?_
  rw [hb0]
  refine r_iconst d_Planner_weighPut_16 ?_
  refine r_icmp_eq 30 d_Planner_weighPut_17 rfl (by omega) (by omega) (fun h17 => ?_) (fun h17 => ?_)
  · refine r_aload_n 0 d_Planner_weighPut_30 rfl rfl ?_
    refine r_iload_n 1 d_Planner_weighPut_31 rfl rfl ?_
    refine r_putI 4 d_Planner_weighPut_32 fk_Planner_38 rfl rfl rfl (Or.inl rfl) ?_
    refine r_aload_n 0 d_Planner_weighPut_35 rfl rfl ?_
    refine r_iload_n 2 d_Planner_weighPut_36 rfl rfl ?_
    refine r_putI 5 d_Planner_weighPut_37 fk_Planner_66 rfl rfl rfl (Or.inl rfl) ?_
    refine r_aload_n 0 d_Planner_weighPut_40 rfl rfl ?_
    refine r_iload_n 3 d_Planner_weighPut_41 rfl rfl ?_
    refine r_putI 6 d_Planner_weighPut_42 fk_Planner_69 rfl rfl rfl (Or.inl rfl) ?_
    refine r_aload_n 0 d_Planner_weighPut_45 rfl rfl ?_
    refine r_iload 4 d_Planner_weighPut_46 rfl ?_
    refine r_putI 7 d_Planner_weighPut_48 fk_Planner_79 rfl rfl rfl (Or.inl rfl) ?_
    refine r_aload_n 0 d_Planner_weighPut_51 rfl rfl ?_
    refine r_iload 6 d_Planner_weighPut_52 rfl ?_
    refine r_putI 8 d_Planner_weighPut_54 fk_Planner_99 rfl rfl rfl (Or.inl rfl) ?_
    refine q_vret d_Planner_weighPut_57 rfl ?_
    exact fin (by omega)
  · have hb2 := (hb.2 h17).2.2.2
    have hg2 := hg.resolve_left h17
    refine r_iload 6 d_Planner_weighPut_20 rfl ?_
    refine r_aload_n 0 d_Planner_weighPut_22 rfl rfl ?_
    refine r_getI 8 d_Planner_weighPut_23 fk_Planner_99 rfl rfl rfl ?_
    refine r_icmp_lt 30 d_Planner_weighPut_26 rfl (by omega) (by omega) (fun h26 => ?_) (fun h26 => ?_)
    · refine r_aload_n 0 d_Planner_weighPut_30 rfl rfl ?_
      refine r_iload_n 1 d_Planner_weighPut_31 rfl rfl ?_
      refine r_putI 4 d_Planner_weighPut_32 fk_Planner_38 rfl rfl rfl (Or.inl rfl) ?_
      refine r_aload_n 0 d_Planner_weighPut_35 rfl rfl ?_
      refine r_iload_n 2 d_Planner_weighPut_36 rfl rfl ?_
      refine r_putI 5 d_Planner_weighPut_37 fk_Planner_66 rfl rfl rfl (Or.inl rfl) ?_
      refine r_aload_n 0 d_Planner_weighPut_40 rfl rfl ?_
      refine r_iload_n 3 d_Planner_weighPut_41 rfl rfl ?_
      refine r_putI 6 d_Planner_weighPut_42 fk_Planner_69 rfl rfl rfl (Or.inl rfl) ?_
      refine r_aload_n 0 d_Planner_weighPut_45 rfl rfl ?_
      refine r_iload 4 d_Planner_weighPut_46 rfl ?_
      refine r_putI 7 d_Planner_weighPut_48 fk_Planner_79 rfl rfl rfl (Or.inl rfl) ?_
      refine r_aload_n 0 d_Planner_weighPut_51 rfl rfl ?_
      refine r_iload 6 d_Planner_weighPut_52 rfl ?_
      refine r_putI 8 d_Planner_weighPut_54 fk_Planner_99 rfl rfl rfl (Or.inl rfl) ?_
      refine q_vret d_Planner_weighPut_57 rfl ?_
      exact fin (by omega)
    · refine q_vret d_Planner_weighPut_29 rfl ?_
      refine ⟨?_, fun _ _ _ => rfl⟩
      unfold wgh
      rw [if_pos ⟨h17, by show b.2.2.2.2 ≤ e - f; omega⟩]
      exact hb
