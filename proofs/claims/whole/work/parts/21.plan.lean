-- PLAN: the contracts of the class Plan (walks written by wip/whole/gen_plan.py)
theorem up_ind {G : Int → Prop} {a b : Int} (hb : G b) (hs : ∀ i, a ≤ i → i < b → G (i + 1) → G i) : ∀ i, a ≤ i → i ≤ b → G i := by
  intro i h0 h1
  obtain ⟨n, hn⟩ : ∃ n : Nat, n = (b - i).toNat := ⟨_, rfl⟩
  induction n generalizing i with
  | zero =>
    have : i = b := by omega
    rw [this]
    exact hb
  | succ n ih => exact hs i h0 (by omega) (ih (i + 1) (by omega) (by omega) (by omega))
theorem r_drop {M : mi} {Rx : rx} {kz : Nat × Nat} {pc : Nat} {ls st : List av} {w : hpd} (i : Nat) (h : Run M Rx kz pc (ls.set i vU) st w) : Run M Rx kz pc ls st w := by
  intro X p l e s m args below meth c H locs A hC hE hS hW hL
  refine h X p l e s m args below meth c H locs A hC hE hS hW ⟨hL.1, hL.2.1, fun j v hj hv => ?_⟩
  by_cases e : j = i
  · subst e
    have hlt : j < ls.length := by
      have := (List.getElem?_eq_some_iff.mp hj).1
      simpa using this
    rw [List.getElem?_set_self hlt] at hj
    cases hj
    exact absurd rfl hv
  · rw [List.getElem?_set_ne (fun q => e q.symm)] at hj
    exact hL.2.2 j v hj hv
theorem ct_size {p : Int} {P : pln} {σ : sto} (hp : isPl p) (hP : PA σ p P) : CI M_Plan_size 0 [vR p] σ (fun r σ' => r = ln (P 0) + ln (P 1) + ln (P 2) ∧ σ' = σ) := by
  have hpi := pl_in hp
  refine ci_of [vR p] fy_Plan_size.1 rfl (Nat.le_of_ble_eq_true rfl) ?_
  refine r_aload_n 0 d_Plan_size_0 rfl rfl ?_
  refine r_getR (p + 5) d_Plan_size_1 fk_Plan_16 (kd_pl hp) rfl (lay_p1 hp) (by have := pl_in hp; omega) ?_
  refine r_iconst d_Plan_size_4 ?_
  refine r_iald 3 d_Plan_size_5 (kd_ps hp) (al_ps hp) (by omega) (by omega) ?_
  refine r_aload_n 0 d_Plan_size_6 rfl rfl ?_
  refine r_getR (p + 5) d_Plan_size_7 fk_Plan_16 (kd_pl hp) rfl (lay_p1 hp) (by have := pl_in hp; omega) ?_
  refine r_iconst d_Plan_size_10 ?_
  refine r_iald 3 d_Plan_size_11 (kd_ps hp) (al_ps hp) (by omega) (by omega) ?_
  refine r_iadd d_Plan_size_12 ?_
  refine r_aload_n 0 d_Plan_size_13 rfl rfl ?_
  refine r_getR (p + 5) d_Plan_size_14 fk_Plan_16 (kd_pl hp) rfl (lay_p1 hp) (by have := pl_in hp; omega) ?_
  refine r_iconst d_Plan_size_17 ?_
  refine r_iald 3 d_Plan_size_18 (kd_ps hp) (al_ps hp) (by omega) (by omega) ?_
  refine r_iadd d_Plan_size_19 ?_
  refine q_iret d_Plan_size_20 rfl ?_
  exact ⟨by rw [(hP 0 (by omega) (by omega)).1, (hP 1 (by omega) (by omega)).1, (hP 2 (by omega) (by omega)).1], rfl⟩
theorem lp_empty {p : Int} {Rx : rx} (hp : isPl p) {Q : sto → Prop} (hx : ∀ σ' , Q σ' → (∀ v, 0 ≤ v → v < 3 → σ' (p + 5) v = 0) → Run M_Plan_empty Rx (0, 0) 20 [vR p, vU] [] (sg σ')) (hQ : ∀ σ v, Q σ → 0 ≤ v → v < 3 → Q (wr σ (p + 5) v 0)) : ∀ v, 0 ≤ v → v ≤ 3 → ∀ σ : sto, Q σ → (∀ u, 0 ≤ u → u < v → σ (p + 5) u = 0) → Run M_Plan_empty Rx (0, 0) 2 [vR p, vI v] [] (sg σ) := by
  have hpi := pl_in hp
  refine up_ind (b := 3) ?_ ?_
  · intro σ q0 q1
    refine r_iload_n 1 d_Plan_empty_2 rfl rfl ?_
    refine r_iconst d_Plan_empty_3 ?_
    refine r_icmp_ge 20 d_Plan_empty_4 rfl (by omega) (by omega) (fun h4 => ?_) (fun h4 => absurd h4 (by omega))
    exact r_drop 1 (hx σ q0 q1)
  · intro v v0 v1 ih σ q0 q1
    refine r_iload_n 1 d_Plan_empty_2 rfl rfl ?_
    refine r_iconst d_Plan_empty_3 ?_
    refine r_icmp_ge 20 d_Plan_empty_4 rfl (by omega) (by omega) (fun h4 => absurd h4 (by omega)) (fun h4 => ?_)
    refine r_aload_n 0 d_Plan_empty_7 rfl rfl ?_
    refine r_getR (p + 5) d_Plan_empty_8 fk_Plan_16 (kd_pl hp) rfl (lay_p1 hp) (by have := pl_in hp; omega) ?_
    refine r_iload_n 1 d_Plan_empty_11 rfl rfl ?_
    refine r_iconst d_Plan_empty_12 ?_
    refine r_iast 3 d_Plan_empty_13 (kd_ps hp) (al_ps hp) (by omega) (by omega) ?_
    refine r_iinc 1 d_Plan_empty_14 rfl (by decide) rfl ?_
    refine r_goto 2 d_Plan_empty_17 rfl ?_
    refine ih _ (hQ σ v q0 v0 v1) (fun u u0 u1 => ?_)
    by_cases e : u = v
    · rw [e, wr_eq]
    · rw [wr_ne (Or.inr e)]; exact q1 u u0 (by omega)
theorem ct_empty {p : Int} {σ : sto} (hp : isPl p) : CV M_Plan_empty 0 [vR p] σ (fun σ' => PA σ' p (fun _ => []) ∧ FP p σ σ') := by
  have hpi := pl_in hp
  refine cv_of [vR p, vU] fy_Plan_empty.1 rfl (Nat.le_of_ble_eq_true rfl) ?_
  refine r_iconst d_Plan_empty_0 ?_
  refine r_istore_n 1 d_Plan_empty_1 rfl (by decide) rfl ?_
  refine lp_empty (Q := fun σ' => FP p σ σ') hp (fun σ' h1 h2 => ?_) (fun σ' v h v0 v1 c i hc => ?_) 0 (by omega) (by omega) σ (fun _ _ _ => rfl) (fun u u0 u1 => by omega)
  · refine q_vret d_Plan_empty_20 rfl ⟨fun v v0 v1 => ⟨h2 v v0 v1, by show ln [] ≤ 12; decide, fun i i0 i1 => ?_⟩, h1⟩
    have i1 : i < ln [] := i1
    rw [ln_nil] at i1; omega
  · rw [wr_ne (Or.inl (by omega))]; exact h c i hc
theorem vanOf_at {P : pln} {s v : Int} (h0 : 0 ≤ v) (h1 : v < 3) (h : s ∈ P v) (hl : ∀ u, 0 ≤ u → u < v → s ∉ P u) : vanOf P s = v ∧ plcOf P s = idx (P v) s := by
  unfold vanOf plcOf
  rcases (show v = 0 ∨ v = 1 ∨ v = 2 by omega) with rfl | rfl | rfl
  · rw [if_pos h, if_pos h]; exact ⟨rfl, rfl⟩
  · have a := hl 0 (by omega) (by omega)
    rw [if_neg a, if_neg a, if_pos h, if_pos h]; exact ⟨rfl, rfl⟩
  · have a := hl 0 (by omega) (by omega)
    have b := hl 1 (by omega) (by omega)
    rw [if_neg a, if_neg a, if_neg b, if_neg b, if_pos h, if_pos h]; exact ⟨rfl, rfl⟩
theorem vanOf_none {P : pln} {s : Int} (hl : ∀ u, 0 ≤ u → u < 3 → s ∉ P u) : vanOf P s = -1 ∧ plcOf P s = -1 := by
  have a := hl 0 (by omega) (by omega)
  have b := hl 1 (by omega) (by omega)
  have c := hl 2 (by omega) (by omega)
  unfold vanOf plcOf
  rw [if_neg a, if_neg a, if_neg b, if_neg b, if_neg c, if_neg c]; exact ⟨rfl, rfl⟩
theorem vanOf_cases (P : pln) (s : Int) : (∃ v, 0 ≤ v ∧ v < 3 ∧ s ∈ P v ∧ (∀ u, 0 ≤ u → u < v → s ∉ P u) ∧ vanOf P s = v ∧ plcOf P s = idx (P v) s) ∨ ((∀ u, 0 ≤ u → u < 3 → s ∉ P u) ∧ vanOf P s = -1 ∧ plcOf P s = -1) := by
  by_cases a : s ∈ P 0
  · exact Or.inl ⟨0, by omega, by omega, a, fun u _ _ => by omega, vanOf_at (by omega) (by omega) a (fun u _ _ => by omega)⟩
  · by_cases b : s ∈ P 1
    · have hl : ∀ u : Int, 0 ≤ u → u < 1 → s ∉ P u := fun u u0 u1 => by rw [show u = 0 by omega]; exact a
      exact Or.inl ⟨1, by omega, by omega, b, hl, vanOf_at (by omega) (by omega) b hl⟩
    · by_cases c : s ∈ P 2
      · have hl : ∀ u : Int, 0 ≤ u → u < 2 → s ∉ P u := fun u u0 u1 => by
          rcases (show u = 0 ∨ u = 1 by omega) with rfl | rfl
          · exact a
          · exact b
        exact Or.inl ⟨2, by omega, by omega, c, hl, vanOf_at (by omega) (by omega) c hl⟩
      · have hl : ∀ u : Int, 0 ≤ u → u < 3 → s ∉ P u := fun u u0 u1 => by
          rcases (show u = 0 ∨ u = 1 ∨ u = 2 by omega) with rfl | rfl | rfl
          · exact a
          · exact b
          · exact c
        exact Or.inr ⟨hl, vanOf_none hl⟩
theorem idx_at {l : List Int} {s i : Int} (h0 : 0 ≤ i) (h1 : i < ln l) (h : gt l i = s) (hl : ∀ j, 0 ≤ j → j < i → gt l j ≠ s) : idx l s = i := fst1_of h0 h1 (by simp [h]) (fun j j0 j1 => by simpa using hl j j0 j1)
theorem idx_in {l : List Int} {s : Int} (h : s ∈ l) : 0 ≤ idx l s ∧ idx l s < ln l ∧ gt l (idx l s) = s := by
  obtain ⟨i, h0, h1, h2⟩ := mem_gt.mp h
  have hle := fst1_le (p := fun i => decide (gt l i = s)) (ln0 l)
  have hlt : idx l s < ln l := by
    unfold idx
    rcases Int.lt_or_le (fst1 (fun i => decide (gt l i = s)) (ln l)) (ln l) with q | q
    · exact q
    · have h3 := fst1_lt (p := fun i => decide (gt l i = s)) (n := ln l) (j := i) h0 (by omega)
      simp [h2] at h3
  refine ⟨hle.1, hlt, ?_⟩
  have := fst1_is (p := fun i => decide (gt l i = s)) (n := ln l) hlt
  exact of_decide_eq_true this
theorem li_vanWith {p s van : Int} {P : pln} {σ : sto} {Rx : rx} (hp : isPl p) (hP : PA σ p P) (hs : inR s) (hv0 : 0 ≤ van) (hv1 : van < 3) (hx : (∀ j, 0 ≤ j → j < ln (P van) → gt (P van) j ≠ s) → Run M_Plan_vanWith Rx (0, 0) 39 [vR p, vI s, vI van, vU] [] (sg σ)) (hr : ∀ i, 0 ≤ i → i < ln (P van) → gt (P van) i = s → (∀ j, 0 ≤ j → j < i → gt (P van) j ≠ s) → Run M_Plan_vanWith Rx (0, 0) 31 [vR p, vI s, vI van, vI i] [] (sg σ)) : ∀ i, 0 ≤ i → i ≤ ln (P van) → (∀ j, 0 ≤ j → j < i → gt (P van) j ≠ s) → Run M_Plan_vanWith Rx (0, 0) 9 [vR p, vI s, vI van, vI i] [] (sg σ) := by
  have hpi := pl_in hp
  have hl := hP.len hv0 hv1
  refine up_ind (b := ln (P van)) ?_ ?_
  · intro hno
    refine r_iload_n 3 d_Plan_vanWith_9 rfl rfl ?_
    refine r_aload_n 0 d_Plan_vanWith_10 rfl rfl ?_
    refine r_getR (p + 5) d_Plan_vanWith_11 fk_Plan_16 (kd_pl hp) rfl (lay_p1 hp) (by have := pl_in hp; omega) ?_
    refine r_iload_n 2 d_Plan_vanWith_14 rfl rfl ?_
    refine r_iald 3 d_Plan_vanWith_15 (kd_ps hp) (al_ps hp) (by omega) (by omega) ?_
    refine r_icmp_ge 39 d_Plan_vanWith_16 rfl (by omega) (by omega) (fun h16 => ?_) (fun h16 => absurd h16 (by omega))
    exact r_drop 3 (hx hno)
  · intro i i0 i1 ih hno
    have he := hP.el hv0 hv1 i0 i1
    refine r_iload_n 3 d_Plan_vanWith_9 rfl rfl ?_
    refine r_aload_n 0 d_Plan_vanWith_10 rfl rfl ?_
    refine r_getR (p + 5) d_Plan_vanWith_11 fk_Plan_16 (kd_pl hp) rfl (lay_p1 hp) (by have := pl_in hp; omega) ?_
    refine r_iload_n 2 d_Plan_vanWith_14 rfl rfl ?_
    refine r_iald 3 d_Plan_vanWith_15 (kd_ps hp) (al_ps hp) (by omega) (by omega) ?_
    refine r_icmp_ge 39 d_Plan_vanWith_16 rfl (by omega) (by omega) (fun h16 => absurd h16 (by omega)) (fun h16 => ?_)
    refine r_aload_n 0 d_Plan_vanWith_19 rfl rfl ?_
    refine r_getR (p + 1) d_Plan_vanWith_20 fk_Plan_11 (kd_pl hp) rfl (lay_p0 hp) (by have := pl_in hp; omega) ?_
    refine r_iload_n 2 d_Plan_vanWith_23 rfl rfl ?_
    refine r_aald 3 _ d_Plan_vanWith_24 (Or.inr (kd_pr hp)) (al_pr hp) (by omega) (by omega) (lay_pr hp (by omega) (by omega)) (by omega) ?_
    refine r_iload_n 3 d_Plan_vanWith_25 rfl rfl ?_
    refine r_iald 12 d_Plan_vanWith_26 (kd_pw hp (by omega) (by omega)) (al_pw hp (by omega) (by omega)) (by omega) (by omega) ?_
    refine r_iload_n 1 d_Plan_vanWith_27 rfl rfl ?_
    refine r_icmp_ne 33 d_Plan_vanWith_28 rfl (by omega) (by omega) (fun h28 => ?_) (fun h28 => ?_)
    · refine r_iinc 3 d_Plan_vanWith_33 rfl (by decide) rfl ?_
      refine r_goto 9 d_Plan_vanWith_36 rfl ?_
      refine ih (fun j j0 j1 => ?_)
      by_cases e : j = i
      · rw [e, ← he.1]; exact h28
      · exact hno j j0 (by omega)
    · exact hr i i0 i1 (by rw [← he.1]; exact h28) hno
theorem lo_vanWith {p s : Int} {P : pln} {σ : sto} {lev : Nat} (hp : isPl p) (hP : PA σ p P) (hs : inR s) : ∀ van, 0 ≤ van → van ≤ 3 → (∀ u, 0 ≤ u → u < van → s ∉ P u) → Run M_Plan_vanWith (rxI lev (fun r σ' => r = vanOf P s ∧ σ' = σ)) (0, 0) 2 [vR p, vI s, vI van, vU] [] (sg σ) := by
  have hpi := pl_in hp
  refine up_ind (b := 3) ?_ ?_
  · intro hno
    refine r_iload_n 2 d_Plan_vanWith_2 rfl rfl ?_
    refine r_iconst d_Plan_vanWith_3 ?_
    refine r_icmp_ge 45 d_Plan_vanWith_4 rfl (by omega) (by omega) (fun h4 => ?_) (fun h4 => absurd h4 (by omega))
    refine r_iconst d_Plan_vanWith_45 ?_
    refine q_iret d_Plan_vanWith_46 rfl ?_
    exact ⟨(vanOf_none hno).1.symm, rfl⟩
  · intro van v0 v1 ih hno
    refine r_iload_n 2 d_Plan_vanWith_2 rfl rfl ?_
    refine r_iconst d_Plan_vanWith_3 ?_
    refine r_icmp_ge 45 d_Plan_vanWith_4 rfl (by omega) (by omega) (fun h4 => absurd h4 (by omega)) (fun h4 => ?_)
    refine r_iconst d_Plan_vanWith_7 ?_
    refine r_istore_n 3 d_Plan_vanWith_8 rfl (by decide) rfl ?_
    refine li_vanWith hp hP hs v0 v1 (fun h => ?_) (fun i i0 i1 hi hj => ?_) 0 (by omega) (ln0 _) (fun j j0 j1 => by omega)
    · have hno2 : ∀ u, 0 ≤ u → u < van + 1 → s ∉ P u := fun u u0 u1 q => by
        by_cases e : u = van
        · obtain ⟨j, j0, j1, j2⟩ := mem_gt.mp q
          rw [e] at j1 j2
          exact h j j0 j1 j2
        · exact hno u u0 (by omega) q
      refine r_iinc 2 d_Plan_vanWith_39 rfl (by decide) rfl ?_
      refine r_goto 2 d_Plan_vanWith_42 rfl ?_
      exact ih hno2
    · have hm : s ∈ P van := hi ▸ gt_mem i0 i1
      refine r_iload_n 2 d_Plan_vanWith_31 rfl rfl ?_
      refine q_iret d_Plan_vanWith_32 rfl ?_
      exact ⟨(vanOf_at v0 v1 hm hno).1.symm, rfl⟩
theorem ct_vanWith {p s : Int} {P : pln} {σ : sto} (hp : isPl p) (hP : PA σ p P) (hs : inR s) : CI M_Plan_vanWith 0 [vR p, vI s] σ (fun r σ' => r = vanOf P s ∧ σ' = σ) := by
  refine ci_of [vR p, vI s, vU, vU] fy_Plan_vanWith.1 rfl (Nat.le_of_ble_eq_true rfl) ?_
  refine r_iconst d_Plan_vanWith_0 ?_
  refine r_istore_n 2 d_Plan_vanWith_1 rfl (by decide) rfl ?_
  exact lo_vanWith hp hP hs 0 (by omega) (by omega) (fun u u0 u1 => by omega)
theorem li_placeOf {p s van : Int} {P : pln} {σ : sto} {Rx : rx} (hp : isPl p) (hP : PA σ p P) (hs : inR s) (hv0 : 0 ≤ van) (hv1 : van < 3) (hx : (∀ j, 0 ≤ j → j < ln (P van) → gt (P van) j ≠ s) → Run M_Plan_placeOf Rx (0, 0) 39 [vR p, vI s, vI van, vU] [] (sg σ)) (hr : ∀ i, 0 ≤ i → i < ln (P van) → gt (P van) i = s → (∀ j, 0 ≤ j → j < i → gt (P van) j ≠ s) → Run M_Plan_placeOf Rx (0, 0) 31 [vR p, vI s, vI van, vI i] [] (sg σ)) : ∀ i, 0 ≤ i → i ≤ ln (P van) → (∀ j, 0 ≤ j → j < i → gt (P van) j ≠ s) → Run M_Plan_placeOf Rx (0, 0) 9 [vR p, vI s, vI van, vI i] [] (sg σ) := by
  have hpi := pl_in hp
  have hl := hP.len hv0 hv1
  refine up_ind (b := ln (P van)) ?_ ?_
  · intro hno
    refine r_iload_n 3 d_Plan_placeOf_9 rfl rfl ?_
    refine r_aload_n 0 d_Plan_placeOf_10 rfl rfl ?_
    refine r_getR (p + 5) d_Plan_placeOf_11 fk_Plan_16 (kd_pl hp) rfl (lay_p1 hp) (by have := pl_in hp; omega) ?_
    refine r_iload_n 2 d_Plan_placeOf_14 rfl rfl ?_
    refine r_iald 3 d_Plan_placeOf_15 (kd_ps hp) (al_ps hp) (by omega) (by omega) ?_
    refine r_icmp_ge 39 d_Plan_placeOf_16 rfl (by omega) (by omega) (fun h16 => ?_) (fun h16 => absurd h16 (by omega))
    exact r_drop 3 (hx hno)
  · intro i i0 i1 ih hno
    have he := hP.el hv0 hv1 i0 i1
    refine r_iload_n 3 d_Plan_placeOf_9 rfl rfl ?_
    refine r_aload_n 0 d_Plan_placeOf_10 rfl rfl ?_
    refine r_getR (p + 5) d_Plan_placeOf_11 fk_Plan_16 (kd_pl hp) rfl (lay_p1 hp) (by have := pl_in hp; omega) ?_
    refine r_iload_n 2 d_Plan_placeOf_14 rfl rfl ?_
    refine r_iald 3 d_Plan_placeOf_15 (kd_ps hp) (al_ps hp) (by omega) (by omega) ?_
    refine r_icmp_ge 39 d_Plan_placeOf_16 rfl (by omega) (by omega) (fun h16 => absurd h16 (by omega)) (fun h16 => ?_)
    refine r_aload_n 0 d_Plan_placeOf_19 rfl rfl ?_
    refine r_getR (p + 1) d_Plan_placeOf_20 fk_Plan_11 (kd_pl hp) rfl (lay_p0 hp) (by have := pl_in hp; omega) ?_
    refine r_iload_n 2 d_Plan_placeOf_23 rfl rfl ?_
    refine r_aald 3 _ d_Plan_placeOf_24 (Or.inr (kd_pr hp)) (al_pr hp) (by omega) (by omega) (lay_pr hp (by omega) (by omega)) (by omega) ?_
    refine r_iload_n 3 d_Plan_placeOf_25 rfl rfl ?_
    refine r_iald 12 d_Plan_placeOf_26 (kd_pw hp (by omega) (by omega)) (al_pw hp (by omega) (by omega)) (by omega) (by omega) ?_
    refine r_iload_n 1 d_Plan_placeOf_27 rfl rfl ?_
    refine r_icmp_ne 33 d_Plan_placeOf_28 rfl (by omega) (by omega) (fun h28 => ?_) (fun h28 => ?_)
    · refine r_iinc 3 d_Plan_placeOf_33 rfl (by decide) rfl ?_
      refine r_goto 9 d_Plan_placeOf_36 rfl ?_
      refine ih (fun j j0 j1 => ?_)
      by_cases e : j = i
      · rw [e, ← he.1]; exact h28
      · exact hno j j0 (by omega)
    · exact hr i i0 i1 (by rw [← he.1]; exact h28) hno
theorem lo_placeOf {p s : Int} {P : pln} {σ : sto} {lev : Nat} (hp : isPl p) (hP : PA σ p P) (hs : inR s) : ∀ van, 0 ≤ van → van ≤ 3 → (∀ u, 0 ≤ u → u < van → s ∉ P u) → Run M_Plan_placeOf (rxI lev (fun r σ' => r = plcOf P s ∧ σ' = σ)) (0, 0) 2 [vR p, vI s, vI van, vU] [] (sg σ) := by
  have hpi := pl_in hp
  refine up_ind (b := 3) ?_ ?_
  · intro hno
    refine r_iload_n 2 d_Plan_placeOf_2 rfl rfl ?_
    refine r_iconst d_Plan_placeOf_3 ?_
    refine r_icmp_ge 45 d_Plan_placeOf_4 rfl (by omega) (by omega) (fun h4 => ?_) (fun h4 => absurd h4 (by omega))
    refine r_iconst d_Plan_placeOf_45 ?_
    refine q_iret d_Plan_placeOf_46 rfl ?_
    exact ⟨(vanOf_none hno).2.symm, rfl⟩
  · intro van v0 v1 ih hno
    refine r_iload_n 2 d_Plan_placeOf_2 rfl rfl ?_
    refine r_iconst d_Plan_placeOf_3 ?_
    refine r_icmp_ge 45 d_Plan_placeOf_4 rfl (by omega) (by omega) (fun h4 => absurd h4 (by omega)) (fun h4 => ?_)
    refine r_iconst d_Plan_placeOf_7 ?_
    refine r_istore_n 3 d_Plan_placeOf_8 rfl (by decide) rfl ?_
    refine li_placeOf hp hP hs v0 v1 (fun h => ?_) (fun i i0 i1 hi hj => ?_) 0 (by omega) (ln0 _) (fun j j0 j1 => by omega)
    · have hno2 : ∀ u, 0 ≤ u → u < van + 1 → s ∉ P u := fun u u0 u1 q => by
        by_cases e : u = van
        · obtain ⟨j, j0, j1, j2⟩ := mem_gt.mp q
          rw [e] at j1 j2
          exact h j j0 j1 j2
        · exact hno u u0 (by omega) q
      refine r_iinc 2 d_Plan_placeOf_39 rfl (by decide) rfl ?_
      refine r_goto 2 d_Plan_placeOf_42 rfl ?_
      exact ih hno2
    · have hm : s ∈ P van := hi ▸ gt_mem i0 i1
      refine r_iload_n 3 d_Plan_placeOf_31 rfl rfl ?_
      refine q_iret d_Plan_placeOf_32 rfl ?_
      exact ⟨by rw [(vanOf_at v0 v1 hm hno).2]; exact (idx_at i0 i1 hi hj).symm, rfl⟩
theorem ct_placeOf {p s : Int} {P : pln} {σ : sto} (hp : isPl p) (hP : PA σ p P) (hs : inR s) : CI M_Plan_placeOf 0 [vR p, vI s] σ (fun r σ' => r = plcOf P s ∧ σ' = σ) := by
  refine ci_of [vR p, vI s, vU, vU] fy_Plan_placeOf.1 rfl (Nat.le_of_ble_eq_true rfl) ?_
  refine r_iconst d_Plan_placeOf_0 ?_
  refine r_istore_n 2 d_Plan_placeOf_1 rfl (by decide) rfl ?_
  exact lo_placeOf hp hP hs 0 (by omega) (by omega) (fun u u0 u1 => by omega)
/-- what a store makes of a plan -/
theorem PA.up {σ σ' : sto} {p v : Int} {P : pln} {l : List Int} (h : PA σ p P) (hF : ∀ c i : Int, p ≤ c → c ≤ p + 5 → (c ≠ p + 5 ∨ i ≠ v) → c ≠ p + 2 + v → σ' c i = σ c i) (v0 : 0 ≤ v) (v1 : v < 3) (hs : σ' (p + 5) v = ln l) (hl : ln l ≤ 12) (he : ∀ i : Int, 0 ≤ i → i < ln l → σ' (p + 2 + v) i = gt l i ∧ 0 ≤ gt l i ∧ gt l i < 12) : PA σ' p (up P v l) := by
  intro u u0 u1
  by_cases e : u = v
  · subst e
    rw [up_eq]
    exact ⟨hs, hl, he⟩
  · rw [up_ne e, hF (p + 5) u (by omega) (by omega) (Or.inr e) (by omega)]
    have hv := h u u0 u1
    refine ⟨hv.1, hv.2.1, fun i i0 i1 => ?_⟩
    rw [hF (p + 2 + u) i (by omega) (by omega) (Or.inl (by omega)) (by omega)]
    exact hv.2.2 i i0 i1
theorem cpy_in {σ : sto} {c sp a dp n i : Int} (h0 : dp ≤ i) (h1 : i < dp + n) : cpy σ c sp a dp n a i = σ c (sp + (i - dp)) := if_pos ⟨rfl, h0, h1⟩
theorem cpy_ne {σ : sto} {c sp a dp n c' i : Int} (h : c' ≠ a ∨ i < dp ∨ dp + n ≤ i) : cpy σ c sp a dp n c' i = σ c' i := by
  unfold cpy
  rw [if_neg]
  intro q
  omega
theorem ct_insert {p v i s : Int} {P : pln} {σ : sto} (hp : isPl p) (hP : PA σ p P) (v0 : 0 ≤ v) (v1 : v < 3) (i0 : 0 ≤ i) (i1 : i ≤ ln (P v)) (hl : ln (P v) < 12) (s0 : 0 ≤ s) (s1 : s < 12) : CV M_Plan_insert 1 [vR p, vI v, vI i, vI s] σ (fun σ' => PA σ' p (up P v (insA (P v) i s)) ∧ FP p σ σ') := by
  have hpi := pl_in hp
  have hz := hP.len v0 v1
  refine cv_of [vR p, vI v, vI i, vI s, vU] fy_Plan_insert.1 rfl (Nat.le_of_ble_eq_true rfl) ?_
  refine r_aload_n 0 d_Plan_insert_0 rfl rfl ?_
  refine r_getR (p + 5) d_Plan_insert_1 fk_Plan_16 (kd_pl hp) rfl (lay_p1 hp) (by have := pl_in hp; omega) ?_
  refine r_iload_n 1 d_Plan_insert_4 rfl rfl ?_
  refine r_iald 3 d_Plan_insert_5 (kd_ps hp) (al_ps hp) (by omega) (by omega) ?_
  refine r_istore 4 d_Plan_insert_6 (by decide) rfl ?_
  refine r_iload 4 d_Plan_insert_8 rfl ?_
  refine r_bipush d_Plan_insert_10 (by decide) ?_
  refine r_icmp_ge 25 d_Plan_insert_12 rfl (by omega) (by omega) (fun h12 => absurd h12 (by omega)) (fun h12 => ?_)
  refine r_iload_n 2 d_Plan_insert_15 rfl rfl ?_
  refine r_if_lt 25 d_Plan_insert_16 rfl (by omega) (fun h16 => absurd h16 (by omega)) (fun h16 => ?_)
  refine r_iload_n 2 d_Plan_insert_19 rfl rfl ?_
  refine r_iload 4 d_Plan_insert_20 rfl ?_
  refine r_icmp_le 26 d_Plan_insert_22 rfl (by omega) (by omega) (fun h22 => ?_) (fun h22 => absurd h22 (by omega))
  refine r_aload_n 0 d_Plan_insert_26 rfl rfl ?_
  refine r_getR (p + 1) d_Plan_insert_27 fk_Plan_11 (kd_pl hp) rfl (lay_p0 hp) (by have := pl_in hp; omega) ?_
  refine r_iload_n 1 d_Plan_insert_30 rfl rfl ?_
  refine r_aald 3 _ d_Plan_insert_31 (Or.inr (kd_pr hp)) (al_pr hp) (by omega) (by omega) (lay_pr hp (by omega) (by omega)) (by omega) ?_
  refine r_iload_n 2 d_Plan_insert_32 rfl rfl ?_
  refine r_aload_n 0 d_Plan_insert_33 rfl rfl ?_
  refine r_getR (p + 1) d_Plan_insert_34 fk_Plan_11 (kd_pl hp) rfl (lay_p0 hp) (by have := pl_in hp; omega) ?_
  refine r_iload_n 1 d_Plan_insert_37 rfl rfl ?_
  refine r_aald 3 _ d_Plan_insert_38 (Or.inr (kd_pr hp)) (al_pr hp) (by omega) (by omega) (lay_pr hp (by omega) (by omega)) (by omega) ?_
  refine r_iload_n 2 d_Plan_insert_39 rfl rfl ?_
  refine r_iconst d_Plan_insert_40 ?_
  refine r_iadd d_Plan_insert_41 ?_
  refine r_iload 4 d_Plan_insert_42 rfl ?_
  refine r_iload_n 2 d_Plan_insert_44 rfl rfl ?_
  refine r_isub d_Plan_insert_45 ?_
  refine r_copy 12 12 d_Plan_insert_46 lk_Plan_20 (kd_pw hp (by omega) (by omega)) (kd_pw hp (by omega) (by omega)) (al_pw hp (by omega) (by omega)) (al_pw hp (by omega) (by omega)) (by omega) (by omega) (by omega) (by omega) (by omega) (Nat.le_of_ble_eq_true rfl) (Nat.le_of_ble_eq_true rfl) ?_
  refine r_aload_n 0 d_Plan_insert_49 rfl rfl ?_
  refine r_getR (p + 1) d_Plan_insert_50 fk_Plan_11 (kd_pl hp) rfl (lay_p0 hp) (by have := pl_in hp; omega) ?_
  refine r_iload_n 1 d_Plan_insert_53 rfl rfl ?_
  refine r_aald 3 _ d_Plan_insert_54 (Or.inr (kd_pr hp)) (al_pr hp) (by omega) (by omega) (lay_pr hp (by omega) (by omega)) (by omega) ?_
  refine r_iload_n 2 d_Plan_insert_55 rfl rfl ?_
  refine r_iload_n 3 d_Plan_insert_56 rfl rfl ?_
  refine r_iast 12 d_Plan_insert_57 (kd_pw hp (by omega) (by omega)) (al_pw hp (by omega) (by omega)) (by omega) (by omega) ?_
  refine r_aload_n 0 d_Plan_insert_58 rfl rfl ?_
  refine r_getR (p + 5) d_Plan_insert_59 fk_Plan_16 (kd_pl hp) rfl (lay_p1 hp) (by have := pl_in hp; omega) ?_
  refine r_iload_n 1 d_Plan_insert_62 rfl rfl ?_
  refine r_iload 4 d_Plan_insert_63 rfl ?_
  refine r_iconst d_Plan_insert_65 ?_
  refine r_iadd d_Plan_insert_66 ?_
  refine r_iast 3 d_Plan_insert_67 (kd_ps hp) (al_ps hp) (by omega) (by omega) ?_
  refine q_vret d_Plan_insert_68 rfl ?_
  refine ⟨hP.up (fun c j c0 c1 hj hc => ?_) v0 v1 ?_ (by rw [ln_ins]; omega) (fun j j0 j1 => ?_), fun c j hc => ?_⟩
  · rw [wr_ne hj, wr_ne (Or.inl hc), cpy_ne (Or.inl hc)]
  · rw [wr_eq, ln_ins, hz.1]
  · rw [ln_ins] at j1
    rw [gt_ins j0 j1, wr_ne (Or.inl (by omega))]
    by_cases a : j < i
    · rw [if_pos a, wr_ne (Or.inr (by omega)), cpy_ne (Or.inr (by omega))]
      exact hP.el v0 v1 j0 (by omega)
    · rw [if_neg a]
      by_cases b : j = i
      · rw [if_pos b, b, wr_eq]; omega
      · rw [if_neg b, wr_ne (Or.inr b), cpy_in (by omega) (by omega), show i + (j - (i + 1)) = j - 1 by omega]
        exact hP.el v0 v1 (by omega) (by omega)
  · rw [wr_ne (Or.inl (by omega)), wr_ne (Or.inl (by omega)), cpy_ne (Or.inl (by omega))]
theorem ct_removeAt {p v i : Int} {P : pln} {σ : sto} (hp : isPl p) (hP : PA σ p P) (v0 : 0 ≤ v) (v1 : v < 3) (i0 : 0 ≤ i) (i1 : i < ln (P v)) : CV M_Plan_removeAt 1 [vR p, vI v, vI i] σ (fun σ' => PA σ' p (up P v (delA (P v) i)) ∧ FP p σ σ') := by
  have hpi := pl_in hp
  have hz := hP.len v0 v1
  have hd := ln_del (l := P v) (i := i) (by omega)
  refine cv_of [vR p, vI v, vI i, vU] fy_Plan_removeAt.1 rfl (Nat.le_of_ble_eq_true rfl) ?_
  refine r_aload_n 0 d_Plan_removeAt_0 rfl rfl ?_
  refine r_getR (p + 5) d_Plan_removeAt_1 fk_Plan_16 (kd_pl hp) rfl (lay_p1 hp) (by have := pl_in hp; omega) ?_
  refine r_iload_n 1 d_Plan_removeAt_4 rfl rfl ?_
  refine r_iald 3 d_Plan_removeAt_5 (kd_ps hp) (al_ps hp) (by omega) (by omega) ?_
  refine r_istore_n 3 d_Plan_removeAt_6 rfl (by decide) rfl ?_
  refine r_iload_n 2 d_Plan_removeAt_7 rfl rfl ?_
  refine r_if_lt 16 d_Plan_removeAt_8 rfl (by omega) (fun h8 => absurd h8 (by omega)) (fun h8 => ?_)
  refine r_iload_n 2 d_Plan_removeAt_11 rfl rfl ?_
  refine r_iload_n 3 d_Plan_removeAt_12 rfl rfl ?_
  refine r_icmp_lt 17 d_Plan_removeAt_13 rfl (by omega) (by omega) (fun h13 => ?_) (fun h13 => absurd h13 (by omega))
  refine r_aload_n 0 d_Plan_removeAt_17 rfl rfl ?_
  refine r_getR (p + 1) d_Plan_removeAt_18 fk_Plan_11 (kd_pl hp) rfl (lay_p0 hp) (by have := pl_in hp; omega) ?_
  refine r_iload_n 1 d_Plan_removeAt_21 rfl rfl ?_
  refine r_aald 3 _ d_Plan_removeAt_22 (Or.inr (kd_pr hp)) (al_pr hp) (by omega) (by omega) (lay_pr hp (by omega) (by omega)) (by omega) ?_
  refine r_iload_n 2 d_Plan_removeAt_23 rfl rfl ?_
  refine r_iconst d_Plan_removeAt_24 ?_
  refine r_iadd d_Plan_removeAt_25 ?_
  refine r_aload_n 0 d_Plan_removeAt_26 rfl rfl ?_
  refine r_getR (p + 1) d_Plan_removeAt_27 fk_Plan_11 (kd_pl hp) rfl (lay_p0 hp) (by have := pl_in hp; omega) ?_
  refine r_iload_n 1 d_Plan_removeAt_30 rfl rfl ?_
  refine r_aald 3 _ d_Plan_removeAt_31 (Or.inr (kd_pr hp)) (al_pr hp) (by omega) (by omega) (lay_pr hp (by omega) (by omega)) (by omega) ?_
  refine r_iload_n 2 d_Plan_removeAt_32 rfl rfl ?_
  refine r_iload_n 3 d_Plan_removeAt_33 rfl rfl ?_
  refine r_iload_n 2 d_Plan_removeAt_34 rfl rfl ?_
  refine r_isub d_Plan_removeAt_35 ?_
  refine r_iconst d_Plan_removeAt_36 ?_
  refine r_isub d_Plan_removeAt_37 ?_
  refine r_copy 12 12 d_Plan_removeAt_38 lk_Plan_20 (kd_pw hp (by omega) (by omega)) (kd_pw hp (by omega) (by omega)) (al_pw hp (by omega) (by omega)) (al_pw hp (by omega) (by omega)) (by omega) (by omega) (by omega) (by omega) (by omega) (Nat.le_of_ble_eq_true rfl) (Nat.le_of_ble_eq_true rfl) ?_
  refine r_aload_n 0 d_Plan_removeAt_41 rfl rfl ?_
  refine r_getR (p + 5) d_Plan_removeAt_42 fk_Plan_16 (kd_pl hp) rfl (lay_p1 hp) (by have := pl_in hp; omega) ?_
  refine r_iload_n 1 d_Plan_removeAt_45 rfl rfl ?_
  refine r_iload_n 3 d_Plan_removeAt_46 rfl rfl ?_
  refine r_iconst d_Plan_removeAt_47 ?_
  refine r_isub d_Plan_removeAt_48 ?_
  refine r_iast 3 d_Plan_removeAt_49 (kd_ps hp) (al_ps hp) (by omega) (by omega) ?_
  refine q_vret d_Plan_removeAt_50 rfl ?_
  refine ⟨hP.up (fun c j c0 c1 hj hc => ?_) v0 v1 ?_ (by omega) (fun j j0 j1 => ?_), fun c j hc => ?_⟩
  · rw [wr_ne hj, cpy_ne (Or.inl hc)]
  · rw [wr_eq, hd, hz.1]
  · rw [gt_del j0 (by omega), wr_ne (Or.inl (by omega))]
    by_cases a : j < i
    · rw [if_pos a, cpy_ne (Or.inr (by omega))]
      exact hP.el v0 v1 j0 (by omega)
    · rw [if_neg a, cpy_in (by omega) (by omega), show i + 1 + (j - i) = j + 1 by omega]
      exact hP.el v0 v1 (by omega) (by omega)
  · rw [wr_ne (Or.inl (by omega)), cpy_ne (Or.inl (by omega))]
/-- a number taken out of the list in which it stands -/
def rmv1 (P : pln) (s : Int) : pln := if vanOf P s = -1 then P else up P (vanOf P s) (delA (P (vanOf P s)) (plcOf P s))
theorem up_self {P : pln} {v : Int} : up P v (P v) = P := by
  funext u
  unfold up
  by_cases e : u = v
  · rw [if_pos e, e]
  · rw [if_neg e]
theorem ct_remove {p s : Int} {P : pln} {σ : sto} (hp : isPl p) (hP : PA σ p P) (hs : inR s) : CV M_Plan_remove 2 [vR p, vI s] σ (fun σ' => PA σ' p (rmv1 P s) ∧ FP p σ σ') := by
  have hpi := pl_in hp
  have hvo := vanOf_cases P s
  refine cv_of [vR p, vI s, vU] fy_Plan_remove.1 rfl (Nat.le_of_ble_eq_true rfl) ?_
  refine r_aload_n 0 d_Plan_remove_0 rfl rfl ?_
  refine r_iload_n 1 d_Plan_remove_1 rfl rfl ?_
  refine r_cVI 1 d_Plan_remove_2 lk_Plan_26 vc_Plan_vanWith (ct_vanWith hp hP hs) rfl rfl (kd_pl hp) rfl ⟨Nat.le_of_ble_eq_true rfl, Nat.le_of_ble_eq_true rfl⟩ ⟨Nat.zero_le _, Nat.zero_le _⟩ (Nat.le_of_ble_eq_true rfl) (fun r2 s2 q2 => ?_)
  obtain ⟨rfl, rfl⟩ := q2
  have hvr : -1 ≤ vanOf P s ∧ vanOf P s < 3 := by
    rcases hvo with ⟨v, a, b, -, -, c, -⟩ | ⟨-, c, -⟩ <;> omega
  refine r_istore_n 2 d_Plan_remove_5 rfl (by decide) rfl ?_
  refine r_iload_n 2 d_Plan_remove_6 rfl rfl ?_
  refine r_iconst d_Plan_remove_7 ?_
  refine r_icmp_eq 21 d_Plan_remove_8 rfl (by omega) (by omega) (fun h8 => ?_) (fun h8 => ?_)
  · refine q_vret d_Plan_remove_21 rfl ?_
    first
      | exact ⟨by unfold rmv1; rw [if_pos h8]; exact hP, fun c j hc => rfl⟩
      | exact ⟨by unfold rmv1; rw [if_neg h8]; exact q18.1, q18.2⟩
  · refine r_aload_n 0 d_Plan_remove_11 rfl rfl ?_
    refine r_iload_n 2 d_Plan_remove_12 rfl rfl ?_
    refine r_aload_n 0 d_Plan_remove_13 rfl rfl ?_
    refine r_iload_n 1 d_Plan_remove_14 rfl rfl ?_
    refine r_cVI 1 d_Plan_remove_15 lk_Plan_30 vc_Plan_placeOf (ct_placeOf hp hP hs) rfl rfl (kd_pl hp) rfl ⟨Nat.le_of_ble_eq_true rfl, Nat.le_of_ble_eq_true rfl⟩ ⟨Nat.zero_le _, Nat.zero_le _⟩ (Nat.le_of_ble_eq_true rfl) (fun r15 s15 q15 => ?_)
    obtain ⟨rfl, rfl⟩ := q15
    have hvi : 0 ≤ vanOf P s ∧ 0 ≤ plcOf P s ∧ plcOf P s < ln (P (vanOf P s)) := by
      rcases hvo with ⟨v, a, b, c, d, e, f⟩ | ⟨-, c, -⟩
      · have := idx_in c
        rw [e, f]; omega
      · omega
    refine r_cVV 1 d_Plan_remove_18 lk_Plan_33 vc_Plan_removeAt (ct_removeAt hp hP (by omega) (by omega) (by omega) (by omega)) rfl rfl (kd_pl hp) rfl ⟨Nat.le_of_ble_eq_true rfl, Nat.le_of_ble_eq_true rfl⟩ ⟨Nat.zero_le _, Nat.zero_le _⟩ (Nat.le_of_ble_eq_true rfl) (fun s18 q18 => ?_)
    refine q_vret d_Plan_remove_21 rfl ?_
    first
      | exact ⟨by unfold rmv1; rw [if_pos h8]; exact hP, fun c j hc => rfl⟩
      | exact ⟨by unfold rmv1; rw [if_neg h8]; exact q18.1, q18.2⟩
theorem lp_become {p q : Int} {Q : pln} {σ0 : sto} {lev : Nat} (hp : isPl p) (hq : isPl q) (hpq : p ≠ q) (hQ : PA σ0 q Q) : ∀ van, 0 ≤ van → van ≤ 3 → ∀ σ : sto, FP p σ0 σ → (∀ u, 0 ≤ u → u < van → σ (p + 5) u = ln (Q u) ∧ ∀ i, 0 ≤ i → i < ln (Q u) → σ (p + 2 + u) i = gt (Q u) i) → Run M_Plan_become (rxV (lev + 1) (fun σ' => PA σ' p Q ∧ FP p σ0 σ')) (0, 0) 2 [vR p, vR q, vI van] [] (sg σ) := by
  have hpi := pl_in hp
  have hqi := pl_in hq
  have hap := pl_apart p hp q hq hpq
  refine up_ind (b := 3) ?_ ?_
  · intro σ hF hd
    refine r_iload_n 2 d_Plan_become_2 rfl rfl ?_
    refine r_iconst d_Plan_become_3 ?_
    refine r_icmp_ge 48 d_Plan_become_4 rfl (by omega) (by omega) (fun h4 => ?_) (fun h4 => absurd h4 (by omega))
    refine q_vret d_Plan_become_48 rfl ?_
    exact ⟨fun v v0 v1 => ⟨(hd v v0 v1).1, (hQ v v0 v1).2.1, fun i i0 i1 => by rw [(hd v v0 v1).2 i i0 i1]; exact ⟨rfl, (hQ.el v0 v1 i0 i1).2⟩⟩, hF⟩
  · intro v v0 v1 ih σ hF hd
    have hQ1 : PA σ q Q := hQ.keep hq hp (fun e => hpq e.symm) hF
    have hz := hQ1.len v0 v1
    have e1 : wr σ (p + 5) v (σ (q + 5) v) (p + 5) v = ln (Q v) := by rw [wr_eq]; exact hz.1
    refine r_iload_n 2 d_Plan_become_2 rfl rfl ?_
    refine r_iconst d_Plan_become_3 ?_
    refine r_icmp_ge 48 d_Plan_become_4 rfl (by omega) (by omega) (fun h4 => absurd h4 (by omega)) (fun h4 => ?_)
    refine r_aload_n 0 d_Plan_become_7 rfl rfl ?_
    refine r_getR (p + 5) d_Plan_become_8 fk_Plan_16 (kd_pl hp) rfl (lay_p1 hp) (by have := pl_in hp; omega) ?_
    refine r_iload_n 2 d_Plan_become_11 rfl rfl ?_
    refine r_aload_n 1 d_Plan_become_12 rfl rfl ?_
    refine r_getR (q + 5) d_Plan_become_13 fk_Plan_16 (kd_pl hq) rfl (lay_p1 hq) (by have := pl_in hq; omega) ?_
    refine r_iload_n 2 d_Plan_become_16 rfl rfl ?_
    refine r_iald 3 d_Plan_become_17 (kd_ps hq) (al_ps hq) (by omega) (by omega) ?_
    refine r_iast 3 d_Plan_become_18 (kd_ps hp) (al_ps hp) (by omega) (by omega) ?_
    refine r_aload_n 1 d_Plan_become_19 rfl rfl ?_
    refine r_getR (q + 1) d_Plan_become_20 fk_Plan_11 (kd_pl hq) rfl (lay_p0 hq) (by have := pl_in hq; omega) ?_
    refine r_iload_n 2 d_Plan_become_23 rfl rfl ?_
    refine r_aald 3 _ d_Plan_become_24 (Or.inr (kd_pr hq)) (al_pr hq) (by omega) (by omega) (lay_pr hq (by omega) (by omega)) (by omega) ?_
    refine r_iconst d_Plan_become_25 ?_
    refine r_aload_n 0 d_Plan_become_26 rfl rfl ?_
    refine r_getR (p + 1) d_Plan_become_27 fk_Plan_11 (kd_pl hp) rfl (lay_p0 hp) (by have := pl_in hp; omega) ?_
    refine r_iload_n 2 d_Plan_become_30 rfl rfl ?_
    refine r_aald 3 _ d_Plan_become_31 (Or.inr (kd_pr hp)) (al_pr hp) (by omega) (by omega) (lay_pr hp (by omega) (by omega)) (by omega) ?_
    refine r_iconst d_Plan_become_32 ?_
    refine r_aload_n 0 d_Plan_become_33 rfl rfl ?_
    refine r_getR (p + 5) d_Plan_become_34 fk_Plan_16 (kd_pl hp) rfl (lay_p1 hp) (by have := pl_in hp; omega) ?_
    refine r_iload_n 2 d_Plan_become_37 rfl rfl ?_
    refine r_iald 3 d_Plan_become_38 (kd_ps hp) (al_ps hp) (by omega) (by omega) ?_
    refine r_copy 12 12 d_Plan_become_39 lk_Plan_20 (kd_pw hq (by omega) (by omega)) (kd_pw hp (by omega) (by omega)) (al_pw hq (by omega) (by omega)) (al_pw hp (by omega) (by omega)) (by omega) (by omega) (by omega) (by omega) (by omega) (Nat.le_of_ble_eq_true rfl) (Nat.le_of_ble_eq_true rfl) ?_
    refine r_iinc 2 d_Plan_become_42 rfl (by decide) rfl ?_
    refine r_goto 2 d_Plan_become_45 rfl ?_
    refine ih _ (fun c j hc => ?_) (fun u u0 u1 => ?_)
    · rw [cpy_ne (Or.inl (by omega)), wr_ne (Or.inl (by omega))]; exact hF c j hc
    · rw [e1]
      by_cases e : u = v
      · subst e
        refine ⟨by rw [cpy_ne (Or.inl (by omega))]; exact e1, fun i i0 i1 => ?_⟩
        rw [cpy_in (by omega) (by omega), wr_ne (Or.inl (by omega)), show 0 + (i - 0) = i by omega]
        exact (hQ1.el u0 v1 i0 i1).1
      · have h := hd u u0 (by omega)
        refine ⟨by rw [cpy_ne (Or.inl (by omega)), wr_ne (Or.inr e)]; exact h.1, fun i i0 i1 => ?_⟩
        rw [cpy_ne (Or.inl (by omega)), wr_ne (Or.inl (by omega))]
        exact h.2 i i0 i1
theorem ct_become {p q : Int} {Q : pln} {σ : sto} (hp : isPl p) (hq : isPl q) (hpq : p ≠ q) (hQ : PA σ q Q) : CV M_Plan_become 1 [vR p, vR q] σ (fun σ' => PA σ' p Q ∧ FP p σ σ') := by
  have hpi := pl_in hp
  refine cv_of [vR p, vR q, vU] fy_Plan_become.1 rfl (Nat.le_of_ble_eq_true rfl) ?_
  refine r_iconst d_Plan_become_0 ?_
  refine r_istore_n 2 d_Plan_become_1 rfl (by decide) rfl ?_
  exact lp_become hp hq hpq hQ 0 (by omega) (by omega) σ (fun _ _ _ => rfl) (fun u u0 u1 => by omega)
def plk (P Q : pln) : Prop := P 0 = Q 0 ∧ P 1 = Q 1 ∧ P 2 = Q 2
theorem plk_of {P Q : pln} (h : ∀ u, 0 ≤ u → u < 3 → P u = Q u) : plk P Q := ⟨h 0 (by omega) (by omega), h 1 (by omega) (by omega), h 2 (by omega) (by omega)⟩
theorem plk_at {P Q : pln} (h : plk P Q) {u : Int} (u0 : 0 ≤ u) (u1 : u < 3) : P u = Q u := by
  rcases (show u = 0 ∨ u = 1 ∨ u = 2 by omega) with rfl | rfl | rfl
  · exact h.1
  · exact h.2.1
  · exact h.2.2
theorem li_isLike {p q : Int} {P Q : pln} {σ : sto} {lev : Nat} (hp : isPl p) (hq : isPl q) (hP : PA σ p P) (hQ : PA σ q Q) {van : Int} (v0 : 0 ≤ van) (v1 : van < 3) (hlen : ln (P van) = ln (Q van)) (hx : P van = Q van → Run M_Plan_isLike (rxI lev (fun r σ' => (r = 1 ∧ plk P Q ∨ r = 0 ∧ ¬ plk P Q) ∧ σ' = σ)) (0, 0) 63 [vR p, vR q, vI van, vU] [] (sg σ)) : ∀ i, 0 ≤ i → i ≤ ln (P van) → (∀ j, 0 ≤ j → j < i → gt (P van) j = gt (Q van) j) → Run M_Plan_isLike (rxI lev (fun r σ' => (r = 1 ∧ plk P Q ∨ r = 0 ∧ ¬ plk P Q) ∧ σ' = σ)) (0, 0) 26 [vR p, vR q, vI van, vI i] [] (sg σ) := by
  have hpi := pl_in hp
  have hqi := pl_in hq
  have hl := hP.len v0 v1
  refine up_ind (b := ln (P van)) ?_ ?_
  · intro hs
    refine r_iload_n 3 d_Plan_isLike_26 rfl rfl ?_
    refine r_aload_n 0 d_Plan_isLike_27 rfl rfl ?_
    refine r_getR (p + 5) d_Plan_isLike_28 fk_Plan_16 (kd_pl hp) rfl (lay_p1 hp) (by have := pl_in hp; omega) ?_
    refine r_iload_n 2 d_Plan_isLike_31 rfl rfl ?_
    refine r_iald 3 d_Plan_isLike_32 (kd_ps hp) (al_ps hp) (by omega) (by omega) ?_
    refine r_icmp_ge 63 d_Plan_isLike_33 rfl (by omega) (by omega) (fun h33 => ?_) (fun h33 => absurd h33 (by omega))
    exact r_drop 3 (hx (ext_gt hlen hs))
  · intro i i0 i1 ih hs
    have he := hP.el v0 v1 i0 i1
    have hf := hQ.el v0 v1 i0 (by omega)
    refine r_iload_n 3 d_Plan_isLike_26 rfl rfl ?_
    refine r_aload_n 0 d_Plan_isLike_27 rfl rfl ?_
    refine r_getR (p + 5) d_Plan_isLike_28 fk_Plan_16 (kd_pl hp) rfl (lay_p1 hp) (by have := pl_in hp; omega) ?_
    refine r_iload_n 2 d_Plan_isLike_31 rfl rfl ?_
    refine r_iald 3 d_Plan_isLike_32 (kd_ps hp) (al_ps hp) (by omega) (by omega) ?_
    refine r_icmp_ge 63 d_Plan_isLike_33 rfl (by omega) (by omega) (fun h33 => absurd h33 (by omega)) (fun h33 => ?_)
    refine r_aload_n 0 d_Plan_isLike_36 rfl rfl ?_
    refine r_getR (p + 1) d_Plan_isLike_37 fk_Plan_11 (kd_pl hp) rfl (lay_p0 hp) (by have := pl_in hp; omega) ?_
    refine r_iload_n 2 d_Plan_isLike_40 rfl rfl ?_
    refine r_aald 3 _ d_Plan_isLike_41 (Or.inr (kd_pr hp)) (al_pr hp) (by omega) (by omega) (lay_pr hp (by omega) (by omega)) (by omega) ?_
    refine r_iload_n 3 d_Plan_isLike_42 rfl rfl ?_
    refine r_iald 12 d_Plan_isLike_43 (kd_pw hp (by omega) (by omega)) (al_pw hp (by omega) (by omega)) (by omega) (by omega) ?_
    refine r_aload_n 1 d_Plan_isLike_44 rfl rfl ?_
    refine r_getR (q + 1) d_Plan_isLike_45 fk_Plan_11 (kd_pl hq) rfl (lay_p0 hq) (by have := pl_in hq; omega) ?_
    refine r_iload_n 2 d_Plan_isLike_48 rfl rfl ?_
    refine r_aald 3 _ d_Plan_isLike_49 (Or.inr (kd_pr hq)) (al_pr hq) (by omega) (by omega) (lay_pr hq (by omega) (by omega)) (by omega) ?_
    refine r_iload_n 3 d_Plan_isLike_50 rfl rfl ?_
    refine r_iald 12 d_Plan_isLike_51 (kd_pw hq (by omega) (by omega)) (al_pw hq (by omega) (by omega)) (by omega) (by omega) ?_
    refine r_icmp_eq 57 d_Plan_isLike_52 rfl (by omega) (by omega) (fun h52 => ?_) (fun h52 => ?_)
    · refine r_iinc 3 d_Plan_isLike_57 rfl (by decide) rfl ?_
      refine r_goto 26 d_Plan_isLike_60 rfl ?_
      refine ih (fun j j0 j1 => ?_)
      by_cases e : j = i
      · rw [e, ← he.1, ← hf.1]; exact h52
      · exact hs j j0 (by omega)
    · refine r_iconst d_Plan_isLike_55 ?_
      refine q_zret d_Plan_isLike_56 rfl (Or.inl rfl) ?_
      refine ⟨Or.inr ⟨rfl, fun h => h52 ?_⟩, rfl⟩
      rw [he.1, hf.1, plk_at h v0 v1]
theorem ct_isLike {p q : Int} {P Q : pln} {σ : sto} (hp : isPl p) (hq : isPl q) (hP : PA σ p P) (hQ : PA σ q Q) : CI M_Plan_isLike 0 [vR p, vR q] σ (fun r σ' => (r = 1 ∧ plk P Q ∨ r = 0 ∧ ¬ plk P Q) ∧ σ' = σ) := by
  have hpi := pl_in hp
  have hqi := pl_in hq
  refine ci_of [vR p, vR q, vU, vU] fy_Plan_isLike.1 rfl (Nat.le_of_ble_eq_true rfl) ?_
  refine r_iconst d_Plan_isLike_0 ?_
  refine r_istore_n 2 d_Plan_isLike_1 rfl (by decide) rfl ?_
  have key : ∀ van, 0 ≤ van → van ≤ 3 → (∀ u, 0 ≤ u → u < van → P u = Q u) → Run M_Plan_isLike (rxI 0 (fun r σ' => (r = 1 ∧ plk P Q ∨ r = 0 ∧ ¬ plk P Q) ∧ σ' = σ)) (0, 0) 2 [vR p, vR q, vI van, vU] [] (sg σ) := by
    refine up_ind (b := 3) ?_ ?_
    · intro hs
      refine r_iload_n 2 d_Plan_isLike_2 rfl rfl ?_
      refine r_iconst d_Plan_isLike_3 ?_
      refine r_icmp_ge 69 d_Plan_isLike_4 rfl (by omega) (by omega) (fun h4 => ?_) (fun h4 => absurd h4 (by omega))
      refine r_iconst d_Plan_isLike_69 ?_
      refine q_zret d_Plan_isLike_70 rfl (Or.inr rfl) ?_
      exact ⟨Or.inl ⟨rfl, plk_of hs⟩, rfl⟩
    · intro van v0 v1 ih hs
      have hl := hP.len v0 v1
      have hm := hQ.len v0 v1
      refine r_iload_n 2 d_Plan_isLike_2 rfl rfl ?_
      refine r_iconst d_Plan_isLike_3 ?_
      refine r_icmp_ge 69 d_Plan_isLike_4 rfl (by omega) (by omega) (fun h4 => absurd h4 (by omega)) (fun h4 => ?_)
      refine r_aload_n 0 d_Plan_isLike_7 rfl rfl ?_
      refine r_getR (p + 5) d_Plan_isLike_8 fk_Plan_16 (kd_pl hp) rfl (lay_p1 hp) (by have := pl_in hp; omega) ?_
      refine r_iload_n 2 d_Plan_isLike_11 rfl rfl ?_
      refine r_iald 3 d_Plan_isLike_12 (kd_ps hp) (al_ps hp) (by omega) (by omega) ?_
      refine r_aload_n 1 d_Plan_isLike_13 rfl rfl ?_
      refine r_getR (q + 5) d_Plan_isLike_14 fk_Plan_16 (kd_pl hq) rfl (lay_p1 hq) (by have := pl_in hq; omega) ?_
      refine r_iload_n 2 d_Plan_isLike_17 rfl rfl ?_
      refine r_iald 3 d_Plan_isLike_18 (kd_ps hq) (al_ps hq) (by omega) (by omega) ?_
      refine r_icmp_eq 24 d_Plan_isLike_19 rfl (by omega) (by omega) (fun h19 => ?_) (fun h19 => ?_)
      · refine r_iconst d_Plan_isLike_24 ?_
        refine r_istore_n 3 d_Plan_isLike_25 rfl (by decide) rfl ?_
        refine li_isLike hp hq hP hQ v0 v1 (by rw [← hl.1, ← hm.1]; exact h19) (fun hvv => ?_) 0 (by omega) (ln0 _) (fun j j0 j1 => by omega)
        refine r_iinc 2 d_Plan_isLike_63 rfl (by decide) rfl ?_
        refine r_goto 2 d_Plan_isLike_66 rfl ?_
        refine ih (fun u u0 u1 => ?_)
        by_cases e : u = van
        · rw [e]; exact hvv
        · exact hs u u0 (by omega)
      · refine r_iconst d_Plan_isLike_22 ?_
        refine q_zret d_Plan_isLike_23 rfl (Or.inl rfl) ?_
        refine ⟨Or.inr ⟨rfl, fun h => h19 ?_⟩, rfl⟩
        rw [hl.1, hm.1, plk_at h v0 v1]
  exact key 0 (by omega) (by omega) (fun u u0 u1 => by omega)
theorem ct_takeEnd {p q v u i j : Int} {P Q : pln} {σ : sto} (hp : isPl p) (hq : isPl q) (hpq : p ≠ q) (hP : PA σ p P) (hQ : PA σ q Q) (v0 : 0 ≤ v) (v1 : v < 3) (u0 : 0 ≤ u) (u1 : u < 3) (i0 : 0 ≤ i) (i1 : i ≤ ln (P v)) (j0 : 0 ≤ j) (j1 : j ≤ ln (Q u)) (hl : i + (ln (Q u) - j) ≤ 12) : CV M_Plan_takeEnd 1 [vR p, vI v, vI i, vR q, vI u, vI j] σ (fun σ' => PA σ' p (up P v (endA (P v) i (Q u) j)) ∧ FP p σ σ') := by
  have hpi := pl_in hp
  have hqi := pl_in hq
  have hap := pl_apart p hp q hq hpq
  have hz := hP.len v0 v1
  have hy := hQ.len u0 u1
  refine cv_of [vR p, vI v, vI i, vR q, vI u, vI j, vU] fy_Plan_takeEnd.1 rfl (Nat.le_of_ble_eq_true rfl) ?_
  refine r_aload_n 3 d_Plan_takeEnd_0 rfl rfl ?_
  refine r_getR (q + 5) d_Plan_takeEnd_1 fk_Plan_16 (kd_pl hq) rfl (lay_p1 hq) (by have := pl_in hq; omega) ?_
  refine r_iload 4 d_Plan_takeEnd_4 rfl ?_
  refine r_iald 3 d_Plan_takeEnd_6 (kd_ps hq) (al_ps hq) (by omega) (by omega) ?_
  refine r_iload 5 d_Plan_takeEnd_7 rfl ?_
  refine r_isub d_Plan_takeEnd_9 ?_
  refine r_istore 6 d_Plan_takeEnd_10 (by decide) rfl ?_
  refine r_iload_n 2 d_Plan_takeEnd_12 rfl rfl ?_
  refine r_if_lt 35 d_Plan_takeEnd_13 rfl (by omega) (fun h13 => absurd h13 (by omega)) (fun h13 => ?_)
  refine r_iload 5 d_Plan_takeEnd_16 rfl ?_
  refine r_if_lt 35 d_Plan_takeEnd_18 rfl (by omega) (fun h18 => absurd h18 (by omega)) (fun h18 => ?_)
  refine r_iload 6 d_Plan_takeEnd_21 rfl ?_
  refine r_if_lt 35 d_Plan_takeEnd_23 rfl (by omega) (fun h23 => absurd h23 (by omega)) (fun h23 => ?_)
  refine r_iload_n 2 d_Plan_takeEnd_26 rfl rfl ?_
  refine r_iload 6 d_Plan_takeEnd_27 rfl ?_
  refine r_iadd d_Plan_takeEnd_29 ?_
  refine r_bipush d_Plan_takeEnd_30 (by decide) ?_
  refine r_icmp_le 36 d_Plan_takeEnd_32 rfl (by omega) (by omega) (fun h32 => ?_) (fun h32 => absurd h32 (by omega))
  refine r_aload_n 3 d_Plan_takeEnd_36 rfl rfl ?_
  refine r_getR (q + 1) d_Plan_takeEnd_37 fk_Plan_11 (kd_pl hq) rfl (lay_p0 hq) (by have := pl_in hq; omega) ?_
  refine r_iload 4 d_Plan_takeEnd_40 rfl ?_
  refine r_aald 3 _ d_Plan_takeEnd_42 (Or.inr (kd_pr hq)) (al_pr hq) (by omega) (by omega) (lay_pr hq (by omega) (by omega)) (by omega) ?_
  refine r_iload 5 d_Plan_takeEnd_43 rfl ?_
  refine r_aload_n 0 d_Plan_takeEnd_45 rfl rfl ?_
  refine r_getR (p + 1) d_Plan_takeEnd_46 fk_Plan_11 (kd_pl hp) rfl (lay_p0 hp) (by have := pl_in hp; omega) ?_
  refine r_iload_n 1 d_Plan_takeEnd_49 rfl rfl ?_
  refine r_aald 3 _ d_Plan_takeEnd_50 (Or.inr (kd_pr hp)) (al_pr hp) (by omega) (by omega) (lay_pr hp (by omega) (by omega)) (by omega) ?_
  refine r_iload_n 2 d_Plan_takeEnd_51 rfl rfl ?_
  refine r_iload 6 d_Plan_takeEnd_52 rfl ?_
  refine r_copy 12 12 d_Plan_takeEnd_54 lk_Plan_20 (kd_pw hq (by omega) (by omega)) (kd_pw hp (by omega) (by omega)) (al_pw hq (by omega) (by omega)) (al_pw hp (by omega) (by omega)) (by omega) (by omega) (by omega) (by omega) (by omega) (Nat.le_of_ble_eq_true rfl) (Nat.le_of_ble_eq_true rfl) ?_
  refine r_aload_n 0 d_Plan_takeEnd_57 rfl rfl ?_
  refine r_getR (p + 5) d_Plan_takeEnd_58 fk_Plan_16 (kd_pl hp) rfl (lay_p1 hp) (by have := pl_in hp; omega) ?_
  refine r_iload_n 1 d_Plan_takeEnd_61 rfl rfl ?_
  refine r_iload_n 2 d_Plan_takeEnd_62 rfl rfl ?_
  refine r_iload 6 d_Plan_takeEnd_63 rfl ?_
  refine r_iadd d_Plan_takeEnd_65 ?_
  refine r_iast 3 d_Plan_takeEnd_66 (kd_ps hp) (al_ps hp) (by omega) (by omega) ?_
  refine q_vret d_Plan_takeEnd_67 rfl ?_
  refine ⟨hP.up (fun c k c0 c1 hj hc => ?_) v0 v1 ?_ (by rw [ln_end i0 j1]; omega) (fun k k0 k1 => ?_), fun c k hc => ?_⟩
  · rw [wr_ne hj, cpy_ne (Or.inl hc)]
  · rw [wr_eq, ln_end i0 j1, hy.1]
  · rw [ln_end i0 j1] at k1
    rw [gt_end k0 k1, wr_ne (Or.inl (by omega))]
    by_cases a : k < i
    · rw [if_pos a, cpy_ne (Or.inr (by omega))]
      exact hP.el v0 v1 k0 (by omega)
    · rw [if_neg a, cpy_in (by omega) (by omega)]
      exact hQ.el u0 u1 (by omega) (by omega)
  · rw [wr_ne (Or.inl (by omega)), cpy_ne (Or.inl (by omega))]
theorem lp_reverse {p v i j : Int} {P : pln} {σ0 : sto} {lev : Nat} (hp : isPl p) (hP : PA σ0 p P) (v0 : 0 ≤ v) (v1 : v < 3) (i0 : 0 ≤ i) (hij : i < j) (j1 : j < ln (P v)) : ∀ k, 0 ≤ k → k ≤ (j - i + 1) / 2 → ∀ σ : sto, (∀ c x, c ≠ p + 2 + v → σ c x = σ0 c x) → (∀ x, 0 ≤ x → x < ln (P v) → σ (p + 2 + v) x = if (i ≤ x ∧ x < i + k) ∨ (j - k < x ∧ x ≤ j) then gt (P v) (i + j - x) else gt (P v) x) → Run M_Plan_reverse (rxV lev (fun σ' => PA σ' p (up P v (revA (P v) i j)) ∧ FP p σ0 σ')) (0, 0) 14 [vR p, vI v, vI i, vI j, vR (p + 2 + v), vI (i + k), vI (j - k), vU] [] (sg σ) := by
  have hpi := pl_in hp
  have hz := hP.len v0 v1
  refine up_ind (b := (j - i + 1) / 2) ?_ ?_
  · intro σ hF hd
    refine r_iload 5 d_Plan_reverse_14 rfl ?_
    refine r_iload 6 d_Plan_reverse_16 rfl ?_
    refine r_icmp_ge 54 d_Plan_reverse_18 rfl (by omega) (by omega) (fun h18 => ?_) (fun h18 => absurd h18 (by omega))
    refine q_vret d_Plan_reverse_54 rfl ?_
    refine ⟨hP.up (fun c x c0 c1 hj hc => hF c x hc) v0 v1 ?_ (by rw [ln_rev]; omega) (fun x x0 x1 => ?_), fun c x hc => hF c x (by omega)⟩
    · rw [hF _ _ (by omega), ln_rev, hz.1]
    · rw [ln_rev] at x1
      have e : gt (revA (P v) i j) x = if i ≤ x ∧ x ≤ j then gt (P v) (i + j - x) else gt (P v) x := gt_mk x0 x1
      rw [hd x x0 x1, e]
      by_cases a : i ≤ x ∧ x ≤ j
      · rw [if_pos a]
        have hb := hP.el v0 v1 (i := i + j - x) (by omega) (by omega)
        by_cases b : (i ≤ x ∧ x < i + (j - i + 1) / 2) ∨ (j - (j - i + 1) / 2 < x ∧ x ≤ j)
        · rw [if_pos b]; exact ⟨rfl, hb.2⟩
        · rw [if_neg b, show i + j - x = x by omega]
          rw [show i + j - x = x by omega] at hb
          exact ⟨rfl, hb.2⟩
      · rw [if_neg a, if_neg (by omega)]
        exact ⟨rfl, (hP.el v0 v1 x0 x1).2⟩
  · intro k k0 k1 ih σ hF hd
    refine r_iload 5 d_Plan_reverse_14 rfl ?_
    refine r_iload 6 d_Plan_reverse_16 rfl ?_
    refine r_icmp_ge 54 d_Plan_reverse_18 rfl (by omega) (by omega) (fun h18 => absurd h18 (by omega)) (fun h18 => ?_)
    refine r_aload 4 d_Plan_reverse_21 rfl ?_
    refine r_iload 5 d_Plan_reverse_23 rfl ?_
    refine r_iald 12 d_Plan_reverse_25 (kd_pw hp (by omega) (by omega)) (al_pw hp (by omega) (by omega)) (by omega) (by omega) ?_
    refine r_istore 7 d_Plan_reverse_26 (by decide) rfl ?_
    refine r_aload 4 d_Plan_reverse_28 rfl ?_
    refine r_iload 5 d_Plan_reverse_30 rfl ?_
    refine r_aload 4 d_Plan_reverse_32 rfl ?_
    refine r_iload 6 d_Plan_reverse_34 rfl ?_
    refine r_iald 12 d_Plan_reverse_36 (kd_pw hp (by omega) (by omega)) (al_pw hp (by omega) (by omega)) (by omega) (by omega) ?_
    refine r_iast 12 d_Plan_reverse_37 (kd_pw hp (by omega) (by omega)) (al_pw hp (by omega) (by omega)) (by omega) (by omega) ?_
    refine r_aload 4 d_Plan_reverse_38 rfl ?_
    refine r_iload 6 d_Plan_reverse_40 rfl ?_
    refine r_iload 7 d_Plan_reverse_42 rfl ?_
    refine r_iast 12 d_Plan_reverse_44 (kd_pw hp (by omega) (by omega)) (al_pw hp (by omega) (by omega)) (by omega) (by omega) ?_
    refine r_iinc 5 d_Plan_reverse_45 rfl (by decide) rfl ?_
    refine r_iinc 6 d_Plan_reverse_48 rfl (by decide) rfl ?_
    refine r_goto 14 d_Plan_reverse_51 rfl ?_
    refine r_drop 7 ?_
    have e2 : i + k + 1 = i + (k + 1) := by omega
    have e3 : j - k + -1 = j - (k + 1) := by omega
    rw [← e2, ← e3] at ih
    refine ih _ ?_ ?_
    · intro c x hc; rw [wr_ne (Or.inl hc), wr_ne (Or.inl hc)]; exact hF c x hc
    · intro x x0 x1
      by_cases a : x = j - k
      · rw [a, wr_eq, hd (i + k) (by omega) (by omega), if_neg (by omega), if_pos (by omega), show i + j - (j - k) = i + k by omega]
      · rw [wr_ne (Or.inr a)]
        by_cases b : x = i + k
        · rw [b, wr_eq, hd (j - k) (by omega) (by omega), if_neg (by omega), if_pos (by omega), show i + j - (i + k) = j - k by omega]
        · rw [wr_ne (Or.inr b), hd x x0 x1]
          by_cases q : (i ≤ x ∧ x < i + k) ∨ (j - k < x ∧ x ≤ j)
          · rw [if_pos q, if_pos (by omega)]
          · rw [if_neg q, if_neg (by omega)]
theorem ct_reverse {p v i j : Int} {P : pln} {σ : sto} (hp : isPl p) (hP : PA σ p P) (v0 : 0 ≤ v) (v1 : v < 3) (i0 : 0 ≤ i) (hij : i < j) (j1 : j < ln (P v)) : CV M_Plan_reverse 0 [vR p, vI v, vI i, vI j] σ (fun σ' => PA σ' p (up P v (revA (P v) i j)) ∧ FP p σ σ') := by
  have hpi := pl_in hp
  refine cv_of [vR p, vI v, vI i, vI j, vU, vU, vU, vU] fy_Plan_reverse.1 rfl (Nat.le_of_ble_eq_true rfl) ?_
  refine r_aload_n 0 d_Plan_reverse_0 rfl rfl ?_
  refine r_getR (p + 1) d_Plan_reverse_1 fk_Plan_11 (kd_pl hp) rfl (lay_p0 hp) (by have := pl_in hp; omega) ?_
  refine r_iload_n 1 d_Plan_reverse_4 rfl rfl ?_
  refine r_aald 3 _ d_Plan_reverse_5 (Or.inr (kd_pr hp)) (al_pr hp) (by omega) (by omega) (lay_pr hp (by omega) (by omega)) (by omega) ?_
  refine r_astore 4 d_Plan_reverse_6 (by decide) rfl ?_
  refine r_iload_n 2 d_Plan_reverse_8 rfl rfl ?_
  refine r_istore 5 d_Plan_reverse_9 (by decide) rfl ?_
  refine r_iload_n 3 d_Plan_reverse_11 rfl rfl ?_
  refine r_istore 6 d_Plan_reverse_12 (by decide) rfl ?_
  have h := lp_reverse (lev := 0) hp hP v0 v1 i0 hij j1 0 (by omega) (by omega) σ (fun _ _ _ => rfl) (fun x x0 x1 => by rw [if_neg (by omega)]; exact (hP.el v0 v1 x0 x1).1)
  rw [show i + 0 = i by omega, show j - 0 = j by omega] at h
  exact h
