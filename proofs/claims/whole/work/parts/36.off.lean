-- THE OFFICE: what it holds, and what each call answers (written by wip/whole/gen_off.py)
-- what the data tells when it changes beside a round
theorem tk_cg {D D' : sto} (h : ∀ i, D' 12 i = D 12 i) (a b : Int) : tk D' a b = tk D a b := by
  funext x; exact h _
theorem ov_cg {D D' : sto} (h : ∀ i, D' 12 i = D 12 i) (a b t : Int) : ov D' a b t = ov D a b t := by
  unfold ov; rw [tk_cg h]
theorem bf_cg {D D' : sto} (h : ∀ i, D' 12 i = D 12 i) (a t : Int) : ∀ n : Nat, bf D' a t n = bf D a t n := by
  have e : ov D' = ov D := by funext a b t; exact ov_cg h a b t
  intro n
  induction n with
  | zero => rfl
  | succ n ih => unfold bf; rw [ih, e]
theorem way_cg {D D' : sto} (h : ∀ i, D' 12 i = D 12 i) (a b t : Int) : way D' a b t = way D a b t := by
  rw [way_def, way_def, bf_cg h]
theorem fst1_cg {p q : Int → Bool} {n : Int} (n0 : 0 ≤ n) (h : ∀ i, 0 ≤ i → i < n → p i = q i) : fst1 p n = fst1 q n := by
  have h1 := fst1_le (p := q) n0
  by_cases e : fst1 q n < n
  · exact fst1_of h1.1 e (by rw [h _ h1.1 e]; exact fst1_is e) (fun j j0 j1 => by rw [h j j0 (by omega)]; exact fst1_lt j0 j1)
  · rw [show fst1 q n = n by omega]
    exact fst1_none n0 (fun j j0 j1 => by rw [h j j0 j1]; exact fst1_lt (p := q) (n := n) j0 (by omega))
section CG
variable {D D' : sto} {v : Int} {l : List Int} (hs : ∀ k s : Int, 0 ≤ k → k ≤ 6 → s ∈ l → D' k s = D k s) (h8 : D' 8 v = D 8 v) (h9 : D' 9 v = D 9 v) (h10 : D' 10 v = D 10 v) (h12 : ∀ i, D' 12 i = D 12 i)
theorem hr_cg (hs : ∀ k s : Int, 0 ≤ k → k ≤ 6 → s ∈ l → D' k s = D k s) {i : Int} (i0 : 0 ≤ i) (i1 : i ≤ ln l) : hr D' l i = hr D l i := by
  unfold hr
  split
  · rfl
  · exact hs 1 _ (by omega) (by omega) (gt_mem (by omega) (by omega))
theorem mt_cg (hs : ∀ k s : Int, 0 ≤ k → k ≤ 6 → s ∈ l → D' k s = D k s) (h9 : D' 9 v = D 9 v) (h12 : ∀ i, D' 12 i = D 12 i) : ∀ n : Nat, (n : Int) ≤ ln l → mtN D' v l n = mtN D v l n := by
  intro n
  induction n with
  | zero => intro _; exact h9
  | succ n ih =>
    intro hn
    have hm : gt l n ∈ l := gt_mem (by omega) (by omega)
    show mx (way D' (hr D' l n) (D' 1 (gt l n)) (mtN D' v l n)) (D' 2 (gt l n)) + D' 4 (gt l n) = mx (way D (hr D l n) (D 1 (gt l n)) (mtN D v l n)) (D 2 (gt l n)) + D 4 (gt l n)
    rw [ih (by omega), hr_cg hs (by omega) (by omega), hs 1 _ (by omega) (by omega) hm, hs 2 _ (by omega) (by omega) hm, hs 4 _ (by omega) (by omega) hm, way_cg h12]
theorem bg_cg (hs : ∀ k s : Int, 0 ≤ k → k ≤ 6 → s ∈ l → D' k s = D k s) (h9 : D' 9 v = D 9 v) (h12 : ∀ i, D' 12 i = D 12 i) {i : Int} (i0 : 0 ≤ i) (i1 : i < ln l) : bg D' v l i = bg D v l i := by
  have hm : gt l i ∈ l := gt_mem i0 i1
  unfold bg cm mt
  rw [mt_cg hs h9 h12 i.toNat (by omega), hr_cg hs i0 (by omega), hs 1 _ (by omega) (by omega) hm, hs 2 _ (by omega) (by omega) hm, way_cg h12]
theorem ld0_cg (hs : ∀ k s : Int, 0 ≤ k → k ≤ 6 → s ∈ l → D' k s = D k s) : ∀ n : Nat, (n : Int) ≤ ln l → ld0N D' l n = ld0N D l n := by
  intro n
  induction n with
  | zero => intro _; rfl
  | succ n ih =>
    intro hn
    have hm : gt l n ∈ l := gt_mem (by omega) (by omega)
    show ld0N D' l n + (if D' 0 (gt l n) = 1 ∨ D' 0 (gt l n) = 2 then 0 else D' 5 (gt l n)) = ld0N D l n + (if D 0 (gt l n) = 1 ∨ D 0 (gt l n) = 2 then 0 else D 5 (gt l n))
    rw [ih (by omega), hs 0 _ (by omega) (by omega) hm, hs 5 _ (by omega) (by omega) hm]
theorem lda_cg (hs : ∀ k s : Int, 0 ≤ k → k ≤ 6 → s ∈ l → D' k s = D k s) : ∀ n : Nat, (n : Int) ≤ ln l → ldN D' l n = ldN D l n := by
  intro n
  induction n with
  | zero => intro _; exact ld0_cg hs l.length (Int.le_refl _)
  | succ n ih =>
    intro hn
    have hm : gt l n ∈ l := gt_mem (by omega) (by omega)
    show ldN D' l n + (if D' 0 (gt l n) = 1 then D' 5 (gt l n) else - D' 5 (gt l n)) = ldN D l n + (if D 0 (gt l n) = 1 then D 5 (gt l n) else - D 5 (gt l n))
    rw [ih (by omega), hs 0 _ (by omega) (by omega) hm, hs 5 _ (by omega) (by omega) hm]
theorem why_cg (hs : ∀ k s : Int, 0 ≤ k → k ≤ 6 → s ∈ l → D' k s = D k s) (h8 : D' 8 v = D 8 v) (h9 : D' 9 v = D 9 v) (h10 : D' 10 v = D 10 v) (h12 : ∀ i, D' 12 i = D 12 i) : whyOf D' v l = whyOf D v l := by
  have l0 := ln0 l
  have e1 : fst1 (pr1 D' l) (ln l) = fst1 (pr1 D l) (ln l) := fst1_cg l0 (fun i i0 i1 => by
    have hm : gt l i ∈ l := gt_mem i0 i1
    unfold pr1
    rw [hs 0 _ (by omega) (by omega) hm, hs 6 _ (by omega) (by omega) hm])
  have e2 : fst1 (pr2 D' v l) (ln l) = fst1 (pr2 D v l) (ln l) := fst1_cg l0 (fun i i0 i1 => by
    unfold pr2 lda
    rw [h8, lda_cg hs _ (by omega)])
  have e3 : fst1 (pr3 D' v l) (ln l) = fst1 (pr3 D v l) (ln l) := fst1_cg l0 (fun i i0 i1 => by
    have hm : gt l i ∈ l := gt_mem i0 i1
    unfold pr3
    rw [bg_cg hs h9 h12 i0 i1, hs 3 _ (by omega) (by omega) hm, hs 0 _ (by omega) (by omega) hm])
  have e4 : ld0 D' l = ld0 D l := ld0_cg hs l.length (Int.le_refl _)
  have e5 : bk D' v l = bk D v l := by
    unfold bk mt
    rw [mt_cg hs h9 h12 _ (by omega), hr_cg hs l0 (Int.le_refl _), way_cg h12]
  unfold whyOf
  rw [e1, e2, e3, e4, e5, h8, h10]
end CG
-- what the office holds
abbrev G : Type := sto × Int × Int × pln × List pln × Int × (Int → Int) × Int × (Int → Int)
abbrev G.D (g : G) : sto := g.1
abbrev G.ns (g : G) : Int := g.2.1
abbrev G.nv (g : G) : Int := g.2.2.1
abbrev G.P (g : G) : pln := g.2.2.2.1
abbrev G.U (g : G) : List pln := g.2.2.2.2.1
abbrev G.rs (g : G) : Int := g.2.2.2.2.2.1
abbrev G.rn (g : G) : Int → Int := g.2.2.2.2.2.2.1
abbrev G.lw (g : G) : Int := g.2.2.2.2.2.2.2.1
abbrev G.rf (g : G) : Int → Int := g.2.2.2.2.2.2.2.2
/-- with new data, nothing to take back -/
abbrev G.data (g : G) (D : sto) (ns nv : Int) : G := (D, ns, nv, g.P, [], g.rs, g.rn, g.lw, g.rf)
abbrev G.plan (g : G) (P : pln) (U : List pln) : G := (g.D, g.ns, g.nv, P, U, g.rs, g.rn, g.lw, g.rf)
abbrev G.row (g : G) (rs : Int) (rn : Int → Int) : G := (g.D, g.ns, g.nv, g.P, g.U, rs, rn, g.lw, g.rf)
abbrev G.told (g : G) (lw : Int) : G := (g.D, g.ns, g.nv, g.P, g.U, g.rs, g.rn, lw, g.rf)
abbrev G.ref (g : G) (rf : Int → Int) : G := (g.D, g.ns, g.nv, g.P, g.U, g.rs, g.rn, g.lw, rf)
noncomputable def ifp {α : Type} (c : Prop) (a b : α) : α := @ite α c (Classical.propDecidable c) a b
theorem ifp_t {α : Type} {c : Prop} {a b : α} (h : c) : ifp c a b = a := @if_pos c (Classical.propDecidable c) h α a b
theorem ifp_f {α : Type} {c : Prop} {a b : α} (h : ¬ c) : ifp c a b = b := @if_neg c (Classical.propDecidable c) h α a b
def G.ok (g : G) : Prop := DOK g.D g.ns g.nv ∧ PO g.ns g.nv g.P ∧ AF g.D g.nv g.P ∧ (∀ Q ∈ g.U, PO g.ns g.nv Q ∧ AF g.D g.nv Q) ∧ lp g.U ≤ 20 ∧ (-1 ≤ g.rs ∧ g.rs ≤ 12)
def OI (σ : sto) (g : G) (B : Int) : Prop := DC σ g.D g.ns g.nv ∧ TC σ g.D B ∧ PA σ 39 g.P ∧ PC σ g.U ∧ σ 0 9 = g.rs ∧ (∀ i, 0 ≤ i → i < g.rs → σ 167 i = g.rn i) ∧ σ 0 10 = g.lw ∧ ∀ k, 2 ≤ k → k ≤ 8 → σ 168 k = g.rf k
/-- a refusal and its tally -/
def no (g : G) (x : Int) : Int × G := (x, g.ref (fun k => if k = -x then g.rf k + 1 else g.rf k))
abbrev spanOK (s : Int) : Prop := 0 ≤ s ∧ s / 1000 < 480 ∧ s % 1000 < 480 ∧ s / 1000 ≤ s % 1000
/-- new data, if the plan fits by it -/
noncomputable def renew (g : G) (D : sto) (a : Int) : Int × G := ifp (AF D g.nv g.P) (a, g.data D g.ns g.nv) (no g (-7))
noncomputable def adopt (g : G) (Q : pln) : G := ifp (plk Q g.P) g (g.plan Q (psh g.P g.U))
noncomputable def settle (g : G) (Q : pln) : Int × G := ifp (AF g.D g.nv Q) (tot g.D g.nv Q, adopt g Q) (no g (-7))
noncomputable def sp_street (g : G) (a b m : Int) : Int × G :=
  if ¬ (0 ≤ a ∧ a < 8 ∧ 0 ≤ b ∧ b < 8) then no g (-3) else if m < 0 ∨ 99 < m ∨ a = b then no g (-7)
  else renew g (dST g.D a b (fun _ => m)) (if tk g.D a b 0 = 0 then 0 else 1)
noncomputable def sp_slow (g : G) (a b h m : Int) : Int × G :=
  if ¬ (0 ≤ a ∧ a < 8 ∧ 0 ≤ b ∧ b < 8 ∧ 0 ≤ h ∧ h < 8) then no g (-3) else if tk g.D a b 0 = 0 then no g (-2) else if m < 1 ∨ 99 < m then no g (-7)
  else renew g (dST g.D a b (fun k => if k = h then m else tk g.D a b k)) (tk g.D a b h)
noncomputable def sp_way (g : G) (a b t : Int) : Int × G :=
  if ¬ (0 ≤ a ∧ a < 8 ∧ 0 ≤ b ∧ b < 8 ∧ 0 ≤ t ∧ t < 480) then no g (-3) else if 1000000 ≤ way g.D a b t then (-1, g) else (way g.D a b t, g)
/-- the data with one more stop -/
def moreS (D : sto) (n told sp sv f : Int) : sto := fun k s =>
  if s = n then (if k = 0 then told / 10 else if k = 1 then told % 10 else if k = 2 then sp / 1000 else if k = 3 then sp % 1000 else if k = 4 then sv / 100 else if k = 5 then (if told / 10 = 2 then D 5 f else sv % 100) else if k = 6 then (if told / 10 = 2 then f else -1) else if k = 7 then 1 else D k s)
  else if k = 6 ∧ told / 10 = 2 ∧ s = f then n else D k s
def sp_stop (g : G) (told sp sv f : Int) : Int × G :=
  if told < 0 ∨ 8 ≤ told % 10 then no g (-3)
  else if told / 10 = 2 ∧ ¬ (0 ≤ f ∧ f < g.ns) then no g (-3)
  else if told / 10 = 2 ∧ g.D 0 f ≠ 1 then no g (-5)
  else if (told / 10 = 2 ∧ (g.D 6 f ≠ -1 ∨ vanOf g.P f ≠ -1)) ∨ 4 < told / 10 ∨ ¬ spanOK sp ∨ sv < 0 ∨ 60 < sv / 100 ∨ (told / 10 ≠ 2 ∧ 50 < sv % 100) then no g (-7)
  else if 12 ≤ g.ns then no g (-8)
  else (g.ns, g.data (moreS g.D g.ns told sp sv f) (g.ns + 1) g.nv)
noncomputable def sp_span (g : G) (s sp : Int) : Int × G :=
  if ¬ (0 ≤ s ∧ s < g.ns) then no g (-3) else if ¬ spanOK sp then no g (-7)
  else renew g (wr (wr g.D 2 s (sp / 1000)) 3 s (sp % 1000)) (1000 * g.D 2 s + g.D 3 s)
def sp_price (g : G) (s p : Int) : Int × G :=
  if ¬ (0 ≤ s ∧ s < g.ns) then no g (-3) else if g.D 0 s ≠ 3 then no g (-5) else if p < 1 ∨ 9 < p then no g (-7)
  else (g.D 7 s, g.data (wr g.D 7 s p) g.ns g.nv)
def sp_van (g : G) (l sh f : Int) : Int × G :=
  if l < 1 ∨ 200 < l ∨ ¬ spanOK sh ∨ f < 0 ∨ 500 < f then no g (-7) else if 3 ≤ g.nv then no g (-8)
  else (g.nv, g.data (wr (wr (wr (wr g.D 8 g.nv l) 11 g.nv f) 9 g.nv (sh / 1000)) 10 g.nv (sh % 1000)) g.ns (g.nv + 1))
noncomputable def sp_shift (g : G) (v sh : Int) : Int × G :=
  if ¬ (0 ≤ v ∧ v < g.nv) then no g (-3) else if ¬ spanOK sh then no g (-7)
  else renew g (wr (wr g.D 9 v (sh / 1000)) 10 v (sh % 1000)) (1000 * g.D 9 v + g.D 10 v)
def sp_look (g : G) (s what : Int) : Int × G :=
  if ¬ (0 ≤ s ∧ s < g.ns) then no g (-3) else if what = 0 then (g.D 0 s, g) else if what = 1 then (g.D 1 s, g) else if what = 2 then (g.D 5 s, g) else if what = 3 then (g.D 4 s, g)
  else if what = 4 then (g.D 6 s, g) else if what = 5 then (vanOf g.P s, g) else if what = 6 then (plcOf g.P s, g) else no g (-7)
def sp_round (g : G) (v i : Int) : Int × G :=
  if ¬ (0 ≤ v ∧ v < g.nv) then no g (-3) else if i = -1 then (ln (g.P v), g) else if i < 0 ∨ ln (g.P v) ≤ i then no g (-3) else (gt (g.P v) i, g)
noncomputable def sp_when (g : G) (v i what : Int) : Int × G :=
  if ¬ (0 ≤ v ∧ v < g.nv) then no g (-3) else if i < 0 ∨ ln (g.P v) < i ∨ ln (g.P v) = 0 then no g (-3)
  else if what < 0 ∨ 3 < what ∨ (i = ln (g.P v) ∧ what ≠ 0) then no g (-7) else if i = ln (g.P v) then (bk g.D v (g.P v), g)
  else if what = 0 then (cm g.D v (g.P v) i, g) else if what = 1 then (bg g.D v (g.P v) i, g) else if what = 2 then (mt g.D v (g.P v) (i + 1), g) else (lda g.D (g.P v) (i + 1), g)
noncomputable def sp_cost (g : G) (v : Int) : Int × G :=
  if v = -1 then (tot g.D g.nv g.P, g) else if ¬ (0 ≤ v ∧ v < g.nv) then no g (-3) else (cst g.D v (g.P v), g)
noncomputable def sp_why (g : G) (s v i : Int) : Int × G :=
  if ¬ (0 ≤ s ∧ s < g.ns ∧ 0 ≤ v ∧ v < g.nv ∧ 0 ≤ i ∧ i ≤ ln (g.P v)) then no g (-3) else if vanOf g.P s ≠ -1 then no g (-7)
  else (whyOf g.D v (insA (g.P v) i s), g.told (whrOf g.D v (insA (g.P v) i s)))
noncomputable def sp_put (g : G) (s v i : Int) : Int × G :=
  if ¬ (0 ≤ s ∧ s < g.ns ∧ 0 ≤ v ∧ v < g.nv ∧ 0 ≤ i ∧ i ≤ ln (g.P v)) then no g (-3) else if vanOf g.P s ≠ -1 then no g (-7)
  else settle g (up g.P v (insA (g.P v) i s))
noncomputable def sp_pair (g : G) (s v i j : Int) : Int × G :=
  if ¬ (0 ≤ s ∧ s < g.ns ∧ 0 ≤ v ∧ v < g.nv) then no g (-3) else if g.D 0 s ≠ 1 then no g (-5) else if g.D 6 s = -1 then no g (-2)
  else if ¬ (0 ≤ i ∧ i ≤ ln (g.P v) ∧ 0 ≤ j ∧ j ≤ ln (g.P v) + 1) then no g (-3) else if vanOf g.P s ≠ -1 then no g (-7)
  else settle g (up g.P v (row2 g.D g.P s v i j))
noncomputable def sp_take (g : G) (s : Int) : Int × G :=
  if ¬ (0 ≤ s ∧ s < g.ns) then no g (-3) else if vanOf g.P s = -1 then no g (-7)
  else settle g (if g.D 6 s = -1 then rmv1 g.P s else rmv1 (rmv1 g.P s) (g.D 6 s))
noncomputable def sp_move (g : G) (s v i : Int) : Int × G :=
  if ¬ (0 ≤ s ∧ s < g.ns ∧ 0 ≤ v ∧ v < g.nv) then no g (-3) else if vanOf g.P s = -1 then no g (-7)
  else if i < 0 ∨ ln (rmv1 g.P s v) < i then no g (-3) else settle g (mvd g.P s v i)
noncomputable def sp_cross (g : G) (v i u j : Int) : Int × G :=
  if ¬ (0 ≤ v ∧ v < g.nv ∧ 0 ≤ i ∧ i ≤ ln (g.P v) ∧ 0 ≤ u ∧ u < g.nv ∧ 0 ≤ j ∧ j ≤ ln (g.P u)) then no g (-3) else if v = u then no g (-7)
  else settle g (up (up g.P v (endA (g.P v) i (g.P u) j)) u (endA (g.P u) j (g.P v) i))
noncomputable def sp_turn (g : G) (v i j : Int) : Int × G :=
  if ¬ (0 ≤ v ∧ v < g.nv ∧ 0 ≤ i ∧ i < ln (g.P v) ∧ 0 ≤ j ∧ j < ln (g.P v)) then no g (-3) else if j ≤ i then no g (-7)
  else settle g (up g.P v (revA (g.P v) i j))
noncomputable def sp_build (g : G) : Int × G := (szP (bld g.D g.ns g.nv g.P) - szP g.P, adopt g (bld g.D g.ns g.nv g.P))
/-- at most n moves, each the first by which cost falls -/
noncomputable def btN (D : sto) (ns nv : Int) (P : pln) : Nat → Int × pln
  | 0 => (0, P)
  | n + 1 => if mvs D ns nv P < ns then ((btN D ns nv (imp D ns nv P) n).1 + 1, (btN D ns nv (imp D ns nv P) n).2) else (0, P)
noncomputable def sp_better (g : G) (n : Int) : Int × G :=
  if n < 0 then no g (-4) else if 100 < n then no g (-7) else ((btN g.D g.ns g.nv g.P n.toNat).1, adopt g (btN g.D g.ns g.nv g.P n.toNat).2)
noncomputable def lst (D : sto) (ns nv : Int) : pln := Classical.epsilon (LST D ns nv)
theorem lst_eq {D : sto} {ns nv : Int} {L : pln} (hO : DOK D ns nv) (h : LST D ns nv L) : lst D ns nv = L := (Classical.epsilon_spec (p := LST D ns nv) ⟨L, h⟩).uniq hO h
noncomputable def sp_least (g : G) : Int × G := if 5 < g.ns ∨ 2 < g.nv then no g (-8) else (szP (lst g.D g.ns g.nv), adopt g (lst g.D g.ns g.nv))
noncomputable def sp_undo (g : G) : Int × G := if lp g.U = 0 then no g (-2) else (tot g.D g.nv (gp g.U 0), g.plan (gp g.U 0) g.U.tail)
noncomputable def sp_clear (g : G) : Int × G := (szP g.P, adopt g (fun _ => []))
noncomputable def wtAll (D : sto) (P : pln) : Nat → Int
  | 0 => 0
  | n + 1 => wtAll D P n + wt D n (P n) (ln (P n))
noncomputable def ltAll (D : sto) (P : pln) : Nat → Int
  | 0 => 0
  | n + 1 => ltAll D P n + lt9 D n (P n) (ln (P n))
noncomputable def sp_count (g : G) (what : Int) : Int × G :=
  if what = 0 then (g.ns, g) else if what = 1 then (g.nv, g) else if what = 2 then (g.ns - szP g.P, g) else if what = 3 then (mstN g.D g.ns.toNat - mp g.D g.P g.nv, g)
  else if what = 4 then (lp g.U, g) else if what = 5 then (wtAll g.D g.P g.nv.toNat, g) else if what = 6 then (ltAll g.D g.P g.nv.toNat, g) else no g (-7)
noncomputable def sp_lay (g : G) (v : Int) : Int × G :=
  if ¬ (0 ≤ v ∧ v < g.nv) then no g (-3) else (ln (g.P v), g.row (ln (g.P v)) (bg g.D v (g.P v)))
def sp_tear (g : G) : Int × G := if g.rs = -1 then (0, g) else (1, g.row (-1) g.rn)
def sp_row (g : G) (i : Int) : Int × G := if g.rs = -1 then no g (-2) else if i < 0 ∨ g.rs ≤ i then no g (-3) else (g.rn i, g)
def sp_copy (g : G) (i j n : Int) : Int × G :=
  if g.rs = -1 then no g (-2) else if n < 0 then no g (-4) else if i < 0 ∨ j < 0 ∨ g.rs < i + n ∨ g.rs < j + n then no g (-6)
  else (n, g.row g.rs (fun k => if j ≤ k ∧ k < j + n then g.rn (k - j + i) else g.rn k))
def sp_status (g : G) (by_ : Int) : Int × G := if -2 < by_ ∨ by_ < -8 then no g (-7) else (g.rf (-by_), g)
