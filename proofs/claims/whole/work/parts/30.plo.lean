-- PLANS: no stop twice, all of them stops (pure)
def al3 (P : pln) : List Int := P 0 ++ (P 1 ++ P 2)
theorem mem_al3 {P : pln} {s : Int} : s ∈ al3 P ↔ ∃ v, 0 ≤ v ∧ v < 3 ∧ s ∈ P v := by
  unfold al3
  rw [List.mem_append, List.mem_append]
  constructor
  · rintro (h | h | h)
    · exact ⟨0, by omega, by omega, h⟩
    · exact ⟨1, by omega, by omega, h⟩
    · exact ⟨2, by omega, by omega, h⟩
  · rintro ⟨v, v0, v1, h⟩
    rcases (show v = 0 ∨ v = 1 ∨ v = 2 by omega) with rfl | rfl | rfl
    · exact Or.inl h
    · exact Or.inr (Or.inl h)
    · exact Or.inr (Or.inr h)
def szP (P : pln) : Int := ln (P 0) + ln (P 1) + ln (P 2)
theorem len_al3 (P : pln) : ((al3 P).length : Int) = szP P := by
  unfold al3 szP ln
  rw [List.length_append, List.length_append]
  omega
theorem al3_up {P : pln} {v : Int} (v0 : 0 ≤ v) (v1 : v < 3) : ∃ r : List Int, (al3 P).Perm (P v ++ r) ∧ ∀ l, (al3 (up P v l)).Perm (l ++ r) := by
  rcases (show v = 0 ∨ v = 1 ∨ v = 2 by omega) with rfl | rfl | rfl
  · refine ⟨P 1 ++ P 2, List.Perm.refl _, fun l => ?_⟩
    unfold al3
    rw [up_eq, up_ne (by omega), up_ne (by omega)]
  · refine ⟨P 0 ++ P 2, ?_, fun l => ?_⟩
    · unfold al3
      rw [← List.append_assoc, ← List.append_assoc]
      exact List.Perm.append_right _ List.perm_append_comm
    · unfold al3
      rw [up_eq, up_ne (by omega), up_ne (by omega), ← List.append_assoc, ← List.append_assoc]
      exact List.Perm.append_right _ List.perm_append_comm
  · refine ⟨P 0 ++ P 1, ?_, fun l => ?_⟩
    · unfold al3
      rw [← List.append_assoc]
      exact List.perm_append_comm
    · unfold al3
      rw [up_eq, up_ne (by omega), up_ne (by omega), ← List.append_assoc]
      exact List.perm_append_comm
theorem gt_app {a b : List Int} {j : Int} (j0 : 0 ≤ j) : gt (a ++ b) j = if j < ln a then gt a j else gt b (j - ln a) := by
  unfold gt ln
  rw [List.getD_eq_getElem?_getD, List.getD_eq_getElem?_getD, List.getD_eq_getElem?_getD, List.getElem?_append]
  by_cases h : j.toNat < a.length
  · rw [if_pos h, if_pos (by omega)]
  · rw [if_neg h, if_neg (by omega), show j.toNat - a.length = (j - (a.length : Int)).toNat by omega]
theorem gt_cons {a : Int} {l : List Int} {j : Int} (j0 : 0 ≤ j) : gt (a :: l) j = if j = 0 then a else gt l (j - 1) := by
  unfold gt
  rw [List.getD_eq_getElem?_getD, List.getD_eq_getElem?_getD]
  by_cases h : j = 0
  · rw [if_pos h, h]
    rfl
  · rw [if_neg h, show j.toNat = (j - 1).toNat + 1 by omega, List.getElem?_cons_succ]
theorem ln_app {a b : List Int} : ln (a ++ b) = ln a + ln b := by
  unfold ln
  rw [List.length_append]
  omega
theorem ln_cons {a : Int} {l : List Int} : ln (a :: l) = ln l + 1 := by
  unfold ln
  rw [List.length_cons]
  omega
theorem ln_take {l : List Int} {i : Int} (i0 : 0 ≤ i) (i1 : i ≤ ln l) : ln (l.take i.toNat) = i := by
  unfold ln at *
  rw [List.length_take]
  omega
theorem ln_drop {l : List Int} {i : Int} (i0 : 0 ≤ i) (i1 : i ≤ ln l) : ln (l.drop i.toNat) = ln l - i := by
  unfold ln at *
  rw [List.length_drop]
  omega
theorem gt_take {l : List Int} {i j : Int} (j0 : 0 ≤ j) (j1 : j < i) : gt (l.take i.toNat) j = gt l j := by
  unfold gt
  rw [List.getD_eq_getElem?_getD, List.getD_eq_getElem?_getD, List.getElem?_take, if_pos (by omega)]
theorem gt_drop {l : List Int} {i j : Int} (j0 : 0 ≤ j) (i0 : 0 ≤ i) : gt (l.drop i.toNat) j = gt l (i + j) := by
  unfold gt
  rw [List.getD_eq_getElem?_getD, List.getD_eq_getElem?_getD, List.getElem?_drop, show i.toNat + j.toNat = (i + j).toNat by omega]
theorem insA_eq {l : List Int} {i s : Int} (i0 : 0 ≤ i) (i1 : i ≤ ln l) : insA l i s = l.take i.toNat ++ s :: l.drop i.toNat := by
  apply ext_gt
  · rw [ln_ins, ln_app, ln_cons, ln_take i0 i1, ln_drop i0 i1]; omega
  · intro j j0 j1
    rw [ln_ins] at j1
    rw [gt_ins j0 j1, gt_app j0, ln_take i0 i1]
    by_cases a : j < i
    · rw [if_pos a, if_pos a, gt_take j0 a]
    · rw [if_neg a, if_neg a, gt_cons (by omega)]
      by_cases b : j = i
      · rw [if_pos b, if_pos (by omega)]
      · rw [if_neg b, if_neg (by omega), gt_drop (by omega) i0, show i + (j - i - 1) = j - 1 by omega]
theorem delA_eq {l : List Int} {i : Int} (i0 : 0 ≤ i) (i1 : i < ln l) : l = l.take i.toNat ++ gt l i :: l.drop (i + 1).toNat ∧ delA l i = l.take i.toNat ++ l.drop (i + 1).toNat := by
  constructor
  · apply ext_gt
    · rw [ln_app, ln_cons, ln_take i0 (by omega), ln_drop (by omega) (by omega)]; omega
    · intro j j0 j1
      rw [gt_app j0, ln_take i0 (by omega)]
      by_cases a : j < i
      · rw [if_pos a, gt_take j0 a]
      · rw [if_neg a, gt_cons (by omega)]
        by_cases b : j = i
        · rw [if_pos (by omega), b]
        · rw [if_neg (by omega), gt_drop (by omega) (by omega), show i + 1 + (j - i - 1) = j by omega]
  · apply ext_gt
    · rw [ln_del (by omega), ln_app, ln_take i0 (by omega), ln_drop (by omega) (by omega)]; omega
    · intro j j0 j1
      rw [ln_del (by omega)] at j1
      rw [gt_del j0 j1, gt_app j0, ln_take i0 (by omega)]
      by_cases a : j < i
      · rw [if_pos a, if_pos a, gt_take j0 a]
      · rw [if_neg a, if_neg a, gt_drop (by omega) (by omega), show i + 1 + (j - i) = j + 1 by omega]
theorem ins_perm {l : List Int} {i s : Int} (i0 : 0 ≤ i) (i1 : i ≤ ln l) : (insA l i s).Perm (s :: l) := by
  rw [insA_eq i0 i1]
  refine List.perm_middle.trans ?_
  rw [List.take_append_drop]
theorem del_perm {l : List Int} {i : Int} (i0 : 0 ≤ i) (i1 : i < ln l) : l.Perm (gt l i :: delA l i) := by
  obtain ⟨h1, h2⟩ := delA_eq i0 i1
  rw [h2]
  exact (List.Perm.of_eq h1).trans List.perm_middle
theorem del_ins {l : List Int} {i s : Int} (i0 : 0 ≤ i) (i1 : i ≤ ln l) : delA (insA l i s) i = l := by
  have hl := ln0 l
  apply ext_gt
  · rw [ln_del (by rw [ln_ins]; omega), ln_ins]; omega
  · intro j j0 j1
    rw [ln_del (by rw [ln_ins]; omega), ln_ins] at j1
    rw [gt_del j0 (by rw [ln_ins]; omega)]
    by_cases a : j < i
    · rw [if_pos a, gt_ins j0 (by omega), if_pos a]
    · rw [if_neg a, gt_ins (by omega) (by omega), if_neg (by omega), if_neg (by omega), show j + 1 - 1 = j by omega]
theorem ins_del {l : List Int} {i : Int} (i0 : 0 ≤ i) (i1 : i < ln l) : insA (delA l i) i (gt l i) = l := by
  have hd := ln_del (l := l) (i := i) (by omega)
  apply ext_gt
  · rw [ln_ins, hd]; omega
  · intro j j0 j1
    rw [ln_ins, hd] at j1
    rw [gt_ins j0 (by omega)]
    by_cases a : j < i
    · rw [if_pos a, gt_del j0 (by omega), if_pos a]
    · rw [if_neg a]
      by_cases b : j = i
      · rw [if_pos b, b]
      · rw [if_neg b, gt_del (by omega) (by omega), if_neg (by omega), show j - 1 + 1 = j by omega]
theorem mem_ins {l : List Int} {i s x : Int} (i0 : 0 ≤ i) (i1 : i ≤ ln l) : x ∈ insA l i s ↔ x = s ∨ x ∈ l := by
  rw [(ins_perm i0 i1).mem_iff, List.mem_cons]
theorem rev_perm {l : List Int} {i j : Int} (i0 : 0 ≤ i) (hij : i < j) (j1 : j < ln l) : (revA l i j).Perm l := by
  have key : revA l i j = l.take i.toNat ++ (((l.drop i.toNat).take (j + 1 - i).toNat).reverse ++ l.drop (j + 1).toNat) := by
    have e1 := ln_drop (l := l) (i := i) i0 (by omega)
    have e2 : ln ((l.drop i.toNat).take (j + 1 - i).toNat) = j + 1 - i := ln_take (by omega) (by omega)
    have e3 : ln ((l.drop i.toNat).take (j + 1 - i).toNat).reverse = j + 1 - i := by
      unfold ln at e2 ⊢
      rw [List.length_reverse]; exact e2
    apply ext_gt
    · rw [ln_rev, ln_app, ln_app, e3, ln_take i0 (by omega), ln_drop (by omega) (by omega)]; omega
    · intro k k0 k1
      rw [ln_rev] at k1
      have e : gt (revA l i j) k = if i ≤ k ∧ k ≤ j then gt l (i + j - k) else gt l k := gt_mk k0 k1
      rw [e, gt_app k0, ln_take i0 (by omega)]
      by_cases a : k < i
      · rw [if_neg (by omega), if_pos a, gt_take k0 a]
      · rw [if_neg a, gt_app (by omega), e3]
        by_cases b : k ≤ j
        · rw [if_pos ⟨by omega, b⟩, if_pos (by omega)]
          have hr : gt ((l.drop i.toNat).take (j + 1 - i).toNat).reverse (k - i) = gt ((l.drop i.toNat).take (j + 1 - i).toNat) (j - k) := by
            unfold gt
            rw [List.getD_eq_getElem?_getD, List.getD_eq_getElem?_getD, List.getElem?_reverse (by unfold ln at e2; omega)]
            congr 2
            unfold ln at e2
            omega
          rw [hr, gt_take (by omega) (by omega), gt_drop (by omega) i0, show i + (j - k) = i + j - k by omega]
        · rw [if_neg (by omega), if_neg (by omega), gt_drop (by omega) (by omega), show j + 1 + (k - i - (j + 1 - i)) = k by omega]
  rw [key]
  have h : ((l.drop i.toNat).take (j + 1 - i).toNat).reverse.Perm ((l.drop i.toNat).take (j + 1 - i).toNat) := List.reverse_perm _
  refine (List.Perm.append_left _ (List.Perm.append_right _ h)).trans (List.Perm.of_eq ?_)
  have e4 : l.drop (j + 1).toNat = (l.drop i.toNat).drop (j + 1 - i).toNat := by
    rw [List.drop_drop, show i.toNat + (j + 1 - i).toNat = (j + 1).toNat by omega]
  rw [e4, List.take_append_drop, List.take_append_drop]
theorem endA_eq {l b : List Int} {i j : Int} (i0 : 0 ≤ i) (i1 : i ≤ ln l) (j0 : 0 ≤ j) (j1 : j ≤ ln b) : endA l i b j = l.take i.toNat ++ b.drop j.toNat := by
  apply ext_gt
  · rw [ln_end i0 j1, ln_app, ln_take i0 i1, ln_drop j0 j1]
  · intro k k0 k1
    rw [ln_end i0 j1] at k1
    rw [gt_end k0 k1, gt_app k0, ln_take i0 i1]
    by_cases a : k < i
    · rw [if_pos a, if_pos a, gt_take k0 a]
    · rw [if_neg a, if_neg a, gt_drop (by omega) j0]
/-- a plan of stops, none twice, none with a van that there isn't -/
def PO (ns nv : Int) (P : pln) : Prop := (al3 P).Nodup ∧ (∀ s ∈ al3 P, 0 ≤ s ∧ s < ns) ∧ ∀ v, nv ≤ v → 0 ≤ v → v < 3 → P v = []
theorem pigeon {l : List Int} {n : Int} (hn : l.Nodup) (h : ∀ s ∈ l, 0 ≤ s ∧ s < n) : ln l ≤ n ∨ ln l = 0 := by
  rcases Int.lt_or_le n 0 with q | q
  · right
    cases l with
    | nil => rfl
    | cons a l =>
      have := h a List.mem_cons_self
      omega
  · left
    have h1 := List.Nodup.length_le_of_subset (l₂ := (List.range n.toNat).map (fun i : Nat => (i : Int))) hn (fun s hs => by
      have := h s hs
      exact List.mem_map.mpr ⟨s.toNat, List.mem_range.mpr (by omega), by omega⟩)
    rw [List.length_map, List.length_range] at h1
    unfold ln
    omega
section PO
variable {ns nv : Int} {P : pln}
theorem PO.size (h : PO ns nv P) (hn : 0 ≤ ns) : 0 ≤ szP P ∧ szP P ≤ ns := by
  have := pigeon h.1 h.2.1
  have e : ln (al3 P) = szP P := len_al3 P
  rw [e] at this
  have a := ln0 (P 0)
  have b := ln0 (P 1)
  have c := ln0 (P 2)
  unfold szP at *
  omega
theorem szP_le (P : pln) {v : Int} (v0 : 0 ≤ v) (v1 : v < 3) : ln (P v) ≤ szP P := by
  have a := ln0 (P 0)
  have b := ln0 (P 1)
  have c := ln0 (P 2)
  unfold szP
  rcases (show v = 0 ∨ v = 1 ∨ v = 2 by omega) with rfl | rfl | rfl <;> omega
theorem PO.rv (h : PO ns nv P) (hn : 0 ≤ ns) (hn2 : ns ≤ 12) : RVP ns P := by
  intro v v0 v1
  have h1 := h.size hn
  have h2 := szP_le P v0 v1
  exact ⟨by omega, fun i i0 i1 => h.2.1 _ (mem_al3.mpr ⟨v, v0, v1, gt_mem i0 i1⟩)⟩
theorem PO.of_perm {Q : pln} (h : PO ns nv P) (hp : (al3 Q).Perm (al3 P)) (hv : ∀ v, nv ≤ v → 0 ≤ v → v < 3 → Q v = []) : PO ns nv Q := ⟨hp.nodup_iff.mpr h.1, fun s hs => h.2.1 s (hp.mem_iff.mp hs), hv⟩
theorem PO.ins (h : PO ns nv P) {v i s : Int} (v0 : 0 ≤ v) (v1 : v < nv) (hv3 : nv ≤ 3) (i0 : 0 ≤ i) (i1 : i ≤ ln (P v)) (s0 : 0 ≤ s) (s1 : s < ns) (hs : s ∉ al3 P) : PO ns nv (up P v (insA (P v) i s)) := by
  obtain ⟨r, h1, h2⟩ := al3_up (P := P) v0 (show v < 3 by omega)
  have h3 : (al3 (up P v (insA (P v) i s))).Perm (s :: al3 P) := (h2 _).trans ((List.Perm.append_right r (ins_perm i0 i1)).trans (List.Perm.cons s h1.symm))
  refine ⟨h3.nodup_iff.mpr (List.nodup_cons.mpr ⟨hs, h.1⟩), fun x hx => ?_, fun u u0 u1 u2 => ?_⟩
  · rcases List.mem_cons.mp (h3.mem_iff.mp hx) with rfl | hx
    · exact ⟨s0, s1⟩
    · exact h.2.1 x hx
  · rw [up_ne (by omega)]
    exact h.2.2 u u0 u1 u2
theorem PO.lt (h : PO ns nv P) {s : Int} (s0 : 0 ≤ s) (s1 : s < ns) (hs : s ∉ al3 P) : szP P < ns := by
  have h1 := pigeon (l := s :: al3 P) (n := ns) (List.nodup_cons.mpr ⟨hs, h.1⟩) (fun x hx => by
    rcases List.mem_cons.mp hx with rfl | hx
    · exact ⟨s0, s1⟩
    · exact h.2.1 x hx)
  have e : ln (al3 P) = szP P := len_al3 P
  rw [ln_cons, e] at h1
  have a := ln0 (P 0)
  have b := ln0 (P 1)
  have c := ln0 (P 2)
  unfold szP at *
  omega
theorem PO.del (h : PO ns nv P) {v i : Int} (v0 : 0 ≤ v) (v1 : v < nv) (hv3 : nv ≤ 3) (i0 : 0 ≤ i) (i1 : i < ln (P v)) : PO ns nv (up P v (delA (P v) i)) ∧ gt (P v) i ∉ al3 (up P v (delA (P v) i)) := by
  obtain ⟨r, h1, h2⟩ := al3_up (P := P) v0 (show v < 3 by omega)
  have h3 : (al3 P).Perm (gt (P v) i :: al3 (up P v (delA (P v) i))) := h1.trans ((List.Perm.append_right r (del_perm i0 i1)).trans (List.Perm.cons _ (h2 _).symm))
  have hn := List.nodup_cons.mp (h3.nodup_iff.mp h.1)
  refine ⟨⟨hn.2, fun x hx => h.2.1 x (h3.mem_iff.mpr (List.mem_cons_of_mem _ hx)), fun u u0 u1 u2 => ?_⟩, hn.1⟩
  rw [up_ne (by omega)]
  exact h.2.2 u u0 u1 u2
theorem PO.uniq (h : PO ns nv P) {u v s : Int} (u0 : 0 ≤ u) (u1 : u < 3) (v0 : 0 ≤ v) (v1 : v < 3) (hu : s ∈ P u) (hv : s ∈ P v) : u = v := by
  have hn := h.1
  unfold al3 at hn
  rw [List.nodup_append, List.nodup_append] at hn
  obtain ⟨-, ⟨-, -, h12⟩, h0⟩ := hn
  rcases (show u = 0 ∨ u = 1 ∨ u = 2 by omega) with rfl | rfl | rfl <;> rcases (show v = 0 ∨ v = 1 ∨ v = 2 by omega) with rfl | rfl | rfl
  · rfl
  · exact absurd rfl (h0 s hu s (List.mem_append_left _ hv))
  · exact absurd rfl (h0 s hu s (List.mem_append_right _ hv))
  · exact absurd rfl (h0 s hv s (List.mem_append_left _ hu))
  · rfl
  · exact absurd rfl (h12 s hu s hv)
  · exact absurd rfl (h0 s hv s (List.mem_append_right _ hu))
  · exact absurd rfl (h12 s hv s hu)
  · rfl
theorem PO.row (h : PO ns nv P) {v : Int} (v0 : 0 ≤ v) (v1 : v < 3) : (P v).Nodup := by
  obtain ⟨r, h1, -⟩ := al3_up (P := P) v0 v1
  exact (List.nodup_append.mp (h1.nodup_iff.mp h.1)).1
theorem nodup_gt {l : List Int} (h : l.Nodup) {i j : Int} (i0 : 0 ≤ i) (i1 : i < ln l) (j0 : 0 ≤ j) (j1 : j < ln l) (he : gt l i = gt l j) : i = j := by
  unfold ln at i1 j1
  unfold gt at he
  rw [List.getD_eq_getElem?_getD, List.getD_eq_getElem?_getD, List.getElem?_eq_getElem (by omega), List.getElem?_eq_getElem (by omega)] at he
  have := (List.getElem_inj (h₀ := by omega) (h₁ := by omega) h).mp he
  omega
theorem vanOf_no {s : Int} : vanOf P s = -1 ↔ s ∉ al3 P := by
  rw [mem_al3]
  rcases vanOf_cases P s with ⟨v, v0, v1, hm, -, e, -⟩ | ⟨hn, e, -⟩
  · constructor
    · intro h; omega
    · intro h; exact absurd ⟨v, v0, v1, hm⟩ h
  · constructor
    · rintro - ⟨v, v0, v1, hm⟩
      exact hn v v0 v1 hm
    · intro _; exact e
theorem vanOf_yes (h : PO ns nv P) {s : Int} (hs : s ∈ al3 P) : 0 ≤ vanOf P s ∧ vanOf P s < 3 ∧ vanOf P s < nv ∧ s ∈ P (vanOf P s) ∧ plcOf P s = idx (P (vanOf P s)) s ∧ 0 ≤ plcOf P s ∧ plcOf P s < ln (P (vanOf P s)) ∧ gt (P (vanOf P s)) (plcOf P s) = s := by
  rcases vanOf_cases P s with ⟨v, v0, v1, hm, -, e, f⟩ | ⟨hn, e, -⟩
  · have hi := idx_in hm
    have hv : v < nv := by
      rcases Int.lt_or_le v nv with q | q
      · exact q
      · rw [h.2.2 v q v0 v1] at hm
        cases hm
    rw [e, f]
    exact ⟨v0, v1, hv, hm, rfl, hi.1, hi.2.1, hi.2.2⟩
  · exact absurd hs (vanOf_no.mp e)
theorem PO.rmv (h : PO ns nv P) (hv3 : nv ≤ 3) (s : Int) : PO ns nv (rmv1 P s) ∧ s ∉ al3 (rmv1 P s) := by
  unfold rmv1
  by_cases hs : s ∈ al3 P
  · obtain ⟨a, b, c, d, e, f, g, k⟩ := vanOf_yes h hs
    rw [if_neg (by omega)]
    have := h.del a c hv3 f g
    rw [k] at this
    exact this
  · rw [if_pos (vanOf_no.mpr hs)]
    exact ⟨h, hs⟩
end PO
