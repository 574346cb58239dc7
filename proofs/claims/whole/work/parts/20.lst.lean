-- LISTS by whole numbers as places; plans as three lists
def ln (l : List Int) : Int := (l.length : Int)
def gt (l : List Int) (i : Int) : Int := l.getD i.toNat 0
theorem ln0 (l : List Int) : 0 ≤ ln l := by unfold ln; omega
theorem ln_nil : ln [] = 0 := rfl
theorem ext_gt {a b : List Int} (h : ln a = ln b) (h2 : ∀ i : Int, 0 ≤ i → i < ln a → gt a i = gt b i) : a = b := by
  unfold ln at h h2
  apply List.ext_getElem?
  intro i
  by_cases hi : i < a.length
  · have hb : i < b.length := by omega
    have h3 := h2 i (by omega) (by omega)
    unfold gt at h3
    simp only [Int.toNat_natCast, List.getD_eq_getElem?_getD] at h3
    rw [List.getElem?_eq_getElem hi, List.getElem?_eq_getElem hb] at h3 ⊢
    exact congrArg some h3
  · rw [List.getElem?_eq_none (by omega), List.getElem?_eq_none (by omega)]
theorem mem_gt {l : List Int} {s : Int} : s ∈ l ↔ ∃ i : Int, 0 ≤ i ∧ i < ln l ∧ gt l i = s := by
  constructor
  · intro h
    obtain ⟨i, hi, he⟩ := List.getElem_of_mem h
    refine ⟨i, by omega, by unfold ln; omega, ?_⟩
    unfold gt
    simp [List.getD_eq_getElem?_getD, hi, he]
  · rintro ⟨i, h0, h1, rfl⟩
    unfold ln at h1
    unfold gt
    rw [List.getD_eq_getElem?_getD, List.getElem?_eq_getElem (by omega)]
    exact List.getElem_mem _
theorem gt_mem {l : List Int} {i : Int} (h0 : 0 ≤ i) (h1 : i < ln l) : gt l i ∈ l := mem_gt.mpr ⟨i, h0, h1, rfl⟩
/-- a list of n numbers by their places -/
def mk (n : Int) (f : Int → Int) : List Int := (List.range n.toNat).map (fun i : Nat => f i)
theorem ln_mk {n : Int} {f : Int → Int} (h : 0 ≤ n) : ln (mk n f) = n := by
  unfold ln mk
  simp
  omega
theorem gt_mk {n : Int} {f : Int → Int} {i : Int} (h0 : 0 ≤ i) (h1 : i < n) : gt (mk n f) i = f i := by
  unfold gt mk
  rw [List.getD_eq_getElem?_getD, List.getElem?_map, List.getElem?_range (by omega)]
  simp
  congr 1
  omega
/-- s put ahead of place i -/
def insA (l : List Int) (i s : Int) : List Int := mk (ln l + 1) (fun j => if j < i then gt l j else if j = i then s else gt l (j - 1))
theorem ln_ins {l : List Int} {i s : Int} : ln (insA l i s) = ln l + 1 := ln_mk (by have := ln0 l; omega)
theorem gt_ins {l : List Int} {i s j : Int} (h0 : 0 ≤ j) (h1 : j < ln l + 1) : gt (insA l i s) j = if j < i then gt l j else if j = i then s else gt l (j - 1) := gt_mk h0 h1
/-- place i taken out -/
def delA (l : List Int) (i : Int) : List Int := mk (ln l - 1) (fun j => if j < i then gt l j else gt l (j + 1))
theorem ln_del {l : List Int} {i : Int} (h : 0 < ln l) : ln (delA l i) = ln l - 1 := ln_mk (by omega)
theorem gt_del {l : List Int} {i j : Int} (h0 : 0 ≤ j) (h1 : j < ln l - 1) : gt (delA l i) j = if j < i then gt l j else gt l (j + 1) := gt_mk h0 h1
/-- places i to j in the other order -/
def revA (l : List Int) (i j : Int) : List Int := mk (ln l) (fun k => if i ≤ k ∧ k ≤ j then gt l (i + j - k) else gt l k)
theorem ln_rev {l : List Int} {i j : Int} : ln (revA l i j) = ln l := ln_mk (ln0 l)
/-- the first i of l, then b from place j on -/
def endA (l : List Int) (i : Int) (b : List Int) (j : Int) : List Int := mk (i + (ln b - j)) (fun k => if k < i then gt l k else gt b (j + (k - i)))
theorem ln_end {l b : List Int} {i j : Int} (h0 : 0 ≤ i) (h : j ≤ ln b) : ln (endA l i b j) = i + (ln b - j) := ln_mk (by omega)
theorem gt_end {l b : List Int} {i j k : Int} (h0 : 0 ≤ k) (h1 : k < i + (ln b - j)) : gt (endA l i b j) k = if k < i then gt l k else gt b (j + (k - i)) := gt_mk h0 h1
abbrev pln : Type := Int → List Int
def up (P : pln) (v : Int) (l : List Int) : pln := fun u => if u = v then l else P u
theorem up_eq {P : pln} {v : Int} {l : List Int} : up P v l v = l := if_pos rfl
theorem up_ne {P : pln} {v u : Int} {l : List Int} (h : u ≠ v) : up P v l u = P u := if_neg h
/-- in which list a number stands (the first), and at which place there -/
def vanOf (P : pln) (s : Int) : Int := if s ∈ P 0 then 0 else if s ∈ P 1 then 1 else if s ∈ P 2 then 2 else -1
def fstp (p : Int → Bool) : Nat → Nat
  | 0 => 0
  | n + 1 => let k := fstp p n; if k < n then k else if p n then n else n + 1
theorem fstp_le (p : Int → Bool) (n : Nat) : fstp p n ≤ n := by
  induction n with
  | zero => exact Nat.le_refl _
  | succ n ih =>
    unfold fstp
    simp only
    split
    · omega
    · split <;> omega
theorem fstp_is {p : Int → Bool} {n : Nat} (h : fstp p n < n) : p (fstp p n) = true := by
  induction n with
  | zero => omega
  | succ n ih =>
    unfold fstp at h ⊢
    simp only at h ⊢
    split
    · next q => exact ih q
    · next q =>
      split
      · next r => exact r
      · next r =>
        rw [if_neg q, if_neg r] at h
        omega
theorem fstp_lt {p : Int → Bool} {n : Nat} {j : Nat} (h : j < fstp p n) : p j = false := by
  induction n with
  | zero => simp [fstp] at h
  | succ n ih =>
    unfold fstp at h
    simp only at h
    split at h
    · exact ih h
    · next q =>
      have hn := fstp_le p n
      split at h
      · next r => exact ih (by omega)
      · next r =>
        by_cases e : j = n
        · subst e
          simpa using r
        · exact ih (by omega)
/-- the first place below n where p holds; n if there is none -/
def fst1 (p : Int → Bool) (n : Int) : Int := (fstp p n.toNat : Nat)
theorem fst1_of {p : Int → Bool} {n i : Int} (h0 : 0 ≤ i) (h1 : i < n) (hp : p i = true) (hl : ∀ j, 0 ≤ j → j < i → p j = false) : fst1 p n = i := by
  unfold fst1
  have hle := fstp_le p n.toNat
  rcases Nat.lt_trichotomy (fstp p n.toNat) i.toNat with h | h | h
  · have h2 := fstp_is (p := p) (n := n.toNat) (by omega)
    rw [hl _ (by omega) (by omega)] at h2
    cases h2
  · omega
  · have h2 := fstp_lt h
    rw [show ((i.toNat : Nat) : Int) = i by omega, hp] at h2
    cases h2
theorem fst1_none {p : Int → Bool} {n : Int} (h0 : 0 ≤ n) (hl : ∀ j, 0 ≤ j → j < n → p j = false) : fst1 p n = n := by
  unfold fst1
  have hle := fstp_le p n.toNat
  by_cases h : fstp p n.toNat < n.toNat
  · have h2 := fstp_is h
    rw [hl _ (by omega) (by omega)] at h2
    cases h2
  · omega
theorem fst1_le {p : Int → Bool} {n : Int} (h0 : 0 ≤ n) : 0 ≤ fst1 p n ∧ fst1 p n ≤ n := by
  unfold fst1
  have := fstp_le p n.toNat
  omega
theorem fst1_is {p : Int → Bool} {n : Int} (h : fst1 p n < n) : p (fst1 p n) = true := by
  unfold fst1 at h ⊢
  exact fstp_is (by omega)
theorem fst1_lt {p : Int → Bool} {n j : Int} (h0 : 0 ≤ j) (h : j < fst1 p n) : p j = false := by
  unfold fst1 at h
  have h2 := fstp_lt (p := p) (n := n.toNat) (j := j.toNat) (by omega)
  rwa [show ((j.toNat : Nat) : Int) = j by omega] at h2
def idx (l : List Int) (s : Int) : Int := fst1 (fun i => decide (gt l i = s)) (ln l)
def plcOf (P : pln) (s : Int) : Int := if s ∈ P 0 then idx (P 0) s else if s ∈ P 1 then idx (P 1) s else if s ∈ P 2 then idx (P 2) s else -1
-- stores
theorem wr_eq {σ : sto} {c i v : Int} : wr σ c i v c i = v := if_pos ⟨rfl, rfl⟩
theorem wr_ne {σ : sto} {c i v c' i' : Int} (h : c' ≠ c ∨ i' ≠ i) : wr σ c i v c' i' = σ c' i' := if_neg (fun q => h.elim (fun z => z q.1) (fun z => z q.2))
-- the class's plans
def isPl (p : Int) : Prop := p ∈ planL
theorem pl_all : ∀ p ∈ planL, KD p = 1 ∧ lay p 0 = p + 1 ∧ lay p 1 = p + 5 ∧ KD (p + 1) = 12 ∧ AL (p + 1) = 3 ∧ (lay (p + 1) 0 = p + 2 ∧ lay (p + 1) 1 = p + 3 ∧ lay (p + 1) 2 = p + 4) ∧ (KD (p + 2) = 9 ∧ KD (p + 3) = 9 ∧ KD (p + 4) = 9) ∧ (AL (p + 2) = 12 ∧ AL (p + 3) = 12 ∧ AL (p + 4) = 12) ∧ KD (p + 5) = 9 ∧ AL (p + 5) = 3 ∧ 27 ≤ p ∧ p ≤ 161 := by decide +kernel
theorem kd_pl {p : Int} (h : isPl p) : KD p = 1 := (pl_all p h).1
theorem lay_p0 {p : Int} (h : isPl p) : lay p 0 = p + 1 := (pl_all p h).2.1
theorem lay_p1 {p : Int} (h : isPl p) : lay p 1 = p + 5 := (pl_all p h).2.2.1
theorem kd_pr {p : Int} (h : isPl p) : KD (p + 1) = 12 := (pl_all p h).2.2.2.1
theorem al_pr {p : Int} (h : isPl p) : AL (p + 1) = 3 := (pl_all p h).2.2.2.2.1
theorem lay_pr {p v : Int} (h : isPl p) (h0 : 0 ≤ v) (h1 : v < 3) : lay (p + 1) v = p + 2 + v := by
  obtain ⟨q0, q1, q2⟩ := (pl_all p h).2.2.2.2.2.1
  rcases (show v = 0 ∨ v = 1 ∨ v = 2 by omega) with rfl | rfl | rfl
  · rw [q0]; omega
  · rw [q1]; omega
  · rw [q2]; omega
theorem kd_pw {p v : Int} (h : isPl p) (h0 : 0 ≤ v) (h1 : v < 3) : KD (p + 2 + v) = 9 := by
  obtain ⟨q0, q1, q2⟩ := (pl_all p h).2.2.2.2.2.2.1
  rcases (show v = 0 ∨ v = 1 ∨ v = 2 by omega) with rfl | rfl | rfl
  · rw [show p + 2 + 0 = p + 2 by omega, q0]
  · rw [show p + 2 + 1 = p + 3 by omega, q1]
  · rw [show p + 2 + 2 = p + 4 by omega, q2]
theorem al_pw {p v : Int} (h : isPl p) (h0 : 0 ≤ v) (h1 : v < 3) : AL (p + 2 + v) = 12 := by
  obtain ⟨q0, q1, q2⟩ := (pl_all p h).2.2.2.2.2.2.2.1
  rcases (show v = 0 ∨ v = 1 ∨ v = 2 by omega) with rfl | rfl | rfl
  · rw [show p + 2 + 0 = p + 2 by omega, q0]
  · rw [show p + 2 + 1 = p + 3 by omega, q1]
  · rw [show p + 2 + 2 = p + 4 by omega, q2]
theorem kd_ps {p : Int} (h : isPl p) : KD (p + 5) = 9 := (pl_all p h).2.2.2.2.2.2.2.2.1
theorem al_ps {p : Int} (h : isPl p) : AL (p + 5) = 3 := (pl_all p h).2.2.2.2.2.2.2.2.2.1
theorem pl_in {p : Int} (h : isPl p) : 27 ≤ p ∧ p ≤ 161 := (pl_all p h).2.2.2.2.2.2.2.2.2.2
theorem pl_apart : ∀ p ∈ planL, ∀ q ∈ planL, p ≠ q → p + 5 < q ∨ q + 5 < p := by decide +kernel
/-- the plan at cell p has the lists P -/
def PA (σ : sto) (p : Int) (P : pln) : Prop := ∀ v : Int, 0 ≤ v → v < 3 → σ (p + 5) v = ln (P v) ∧ ln (P v) ≤ 12 ∧ ∀ i : Int, 0 ≤ i → i < ln (P v) → σ (p + 2 + v) i = gt (P v) i ∧ 0 ≤ gt (P v) i ∧ gt (P v) i < 12
/-- all but a plan's cells stay -/
def FP (p : Int) (σ σ' : sto) : Prop := ∀ c i : Int, (c < p ∨ p + 5 < c) → σ' c i = σ c i
theorem PA.len {σ : sto} {p : Int} {P : pln} (h : PA σ p P) {v : Int} (h0 : 0 ≤ v) (h1 : v < 3) : σ (p + 5) v = ln (P v) ∧ 0 ≤ ln (P v) ∧ ln (P v) ≤ 12 := ⟨(h v h0 h1).1, ln0 _, (h v h0 h1).2.1⟩
theorem PA.el {σ : sto} {p : Int} {P : pln} (h : PA σ p P) {v i : Int} (h0 : 0 ≤ v) (h1 : v < 3) (h2 : 0 ≤ i) (h3 : i < ln (P v)) : σ (p + 2 + v) i = gt (P v) i ∧ 0 ≤ gt (P v) i ∧ gt (P v) i < 12 := (h v h0 h1).2.2 i h2 h3
theorem PA.keep {σ σ' : sto} {p q : Int} {P : pln} (h : PA σ p P) (hp : isPl p) (hq : isPl q) (hpq : p ≠ q) (hF : FP q σ σ') : PA σ' p P := by
  have ha := pl_apart p hp q hq hpq
  intro v h0 h1
  have hv := h v h0 h1
  rw [hF (p + 5) v (by omega)]
  refine ⟨hv.1, hv.2.1, fun i i0 i1 => ?_⟩
  rw [hF (p + 2 + v) i (by omega)]
  exact hv.2.2 i i0 i1
theorem PA.same {σ σ' : sto} {p : Int} {P : pln} (h : PA σ p P) (hF : ∀ c i : Int, p ≤ c → c ≤ p + 5 → σ' c i = σ c i) : PA σ' p P := by
  intro v h0 h1
  have hv := h v h0 h1
  rw [hF (p + 5) v (by omega) (by omega)]
  refine ⟨hv.1, hv.2.1, fun i i0 i1 => ?_⟩
  rw [hF (p + 2 + v) i (by omega) (by omega)]
  exact hv.2.2 i i0 i1
/-! calls that change nothing -/
section CALP
variable {M : mi} {Rx : rx} {kz : Nat × Nat} {pc : Nat} {ls st : List av} {σ : sto}
theorem r_cVP {My : mi} {lev idx n : Nat} (ci : Nat) {o r : Int} {As stk : List av} (hd : decode M.2.1 pc = .ok (.invokevirtual idx, 3)) (hlk : Cond.methodLink M.1.cls idx My.1 ∈ lw_tbl) (hV : VC My n) (hCt : CI My lev (vR o :: As) σ (fun x σ' => x = r ∧ σ' = σ)) (hn : As.length = n) (hst : stk = As.reverse ++ vR o :: st) (hk : KD o = ci) (hcl : (classes[ci]?).map (·.1) = some My.1.cls) (hR : lev + 1 ≤ Rx.1.frames ∧ 8 + (My.2.2.1 + 11) + 64 * lev ≤ Rx.1.locals) (hz : kz.1 ≤ Rx.1.cells ∧ kz.2 ≤ Rx.1.slots) (hro : (st.map catv).sum ≤ 8)
    (kk : Run M Rx kz (pc + 3) ls (vI r :: st) (sg σ)) : Run M Rx kz pc ls stk (sg σ) :=
  r_cVI ci hd hlk hV hCt hn hst hk hcl hR hz hro (fun x σ' h => by rw [h.1, h.2]; exact kk)
theorem r_cSP {My : mi} {lev idx n : Nat} {r : Int} {As stk : List av} (hd : decode M.2.1 pc = .ok (.invokestatic idx, 3)) (hlk : Cond.methodLink M.1.cls idx My.1 ∈ lw_tbl) (hV : SC My n) (hCt : CI My lev As σ (fun x σ' => x = r ∧ σ' = σ)) (hn : As.length = n) (hst : stk = As.reverse ++ st) (hR : lev + 1 ≤ Rx.1.frames ∧ 8 + (My.2.2.1 + 11) + 64 * lev ≤ Rx.1.locals) (hz : kz.1 ≤ Rx.1.cells ∧ kz.2 ≤ Rx.1.slots) (hro : (st.map catv).sum ≤ 8)
    (kk : Run M Rx kz (pc + 3) ls (vI r :: st) (sg σ)) : Run M Rx kz pc ls stk (sg σ) :=
  r_cSI hd hlk hV hCt hn hst hR hz hro (fun x σ' h => by rw [h.1, h.2]; exact kk)
end CALP
