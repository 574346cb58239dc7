-- TRIP: costs, total, mustsIn (walks written by wip/whole/gen_tot.py)
theorem why_0 {D : sto} {v : Int} {l : List Int} (h : whyOf D v l = 0) : ln l = 0 ∨ (ln l ≠ 0 ∧ fst1 (pr1 D l) (ln l) = ln l ∧ ld0 D l ≤ D 8 v ∧ fst1 (pr2 D v l) (ln l) = ln l ∧ fst1 (pr3 D v l) (ln l) = ln l ∧ bk D v l ≤ D 10 v) := by
  have h1 := fst1_le (p := pr1 D l) (ln0 l)
  have h2 := fst1_le (p := pr2 D v l) (ln0 l)
  have h3 := fst1_le (p := pr3 D v l) (ln0 l)
  unfold whyOf at h
  split at h
  · left; assumption
  · split at h
    · omega
    · split at h
      · omega
      · split at h
        · omega
        · split at h
          · omega
          · split at h
            · omega
            · right; refine ⟨by assumption, by omega, by omega, by omega, by omega, by omega⟩
/-- what every cost of a round that fits lies between -/
theorem cst_in {D : sto} {ns nv v : Int} {l : List Int} (hO : DOK D ns nv) (hl : RV ns l) (v0 : 0 ≤ v) (v1 : v < nv) (h : whyOf D v l = 0) : 0 ≤ cst D v l ∧ cst D v l ≤ 60000 := by
  have hl0 := ln0 l
  rcases why_0 h with e | ⟨e, h1, h2, h3, h4, h5⟩
  · unfold cst
    rw [if_pos e]
    omega
  · have hp : ∀ j, 0 ≤ j → j < ln l → pr3 D v l j = false := fun j j0 j1 => fst1_lt (n := ln l) j0 (by omega)
    have hvd := hO.2.2.2.1 v v0 v1
    have hS := hO.2.2.2.2
    have key : ∀ n : Nat, (n : Int) ≤ ln l → D 9 v ≤ ex D v l n + mt D v l n ∧ ex D v l n ≤ 4400 * n := by
      intro n
      induction n with
      | zero =>
        intro _
        have e1 : ex D v l ((0 : Nat) : Int) = 0 := rfl
        have e2 : mt D v l ((0 : Nat) : Int) = D 9 v := rfl
        omega
      | succ n ih =>
        intro hn
        have hi := ih (by omega)
        have hs := hl.2 n (by omega) (by omega)
        have hd := hO.2.1 _ hs.1 hs.2
        have hm := mt_in hO hl v0 v1 (i := n) (by omega) (by omega) (fun j j0 j1 => hp j j0 (by omega))
        have hc := cm_in hO hl v0 v1 (i := n) (by omega) (by omega) (fun j j0 j1 => hp j j0 (by omega))
        have hh := hr_in hO hl (i := n) (by omega) (by omega)
        have hw := way_in (D := D) (a := hr D l n) (b := D 1 (gt l n)) hS hm.1 (by omega) hd.2.1.1 hd.2.1.2
        have hw : mt D v l n ≤ cm D v l n ∧ _ := hw
        have hq := of_decide_eq_false (hp n (by omega) (by omega))
        have hlt : lte D v l n ≤ 479 := by
          unfold lte mx
          split <;> omega
        have hmul : 0 ≤ lte D v l n * D 7 (gt l n) := Int.mul_nonneg hc.2.2.2.2.2.1 (by omega)
        have hmul2 : lte D v l n * D 7 (gt l n) ≤ 479 * 9 := Int.mul_le_mul hlt (by omega) (by omega) (by omega)
        have e1 := ex_s (D := D) (v := v) (l := l) (i := n) (by omega)
        have e2 := mt_s (D := D) (v := v) (l := l) (i := n) (by omega)
        have e3 : ((n + 1 : Nat) : Int) = (n : Int) + 1 := by omega
        rw [e3, e1, e2]
        omega
    have hk := key l.length (Int.le_refl _)
    have hk : D 9 v ≤ ex D v l (ln l) + mt D v l (ln l) ∧ ex D v l (ln l) ≤ 4400 * (ln l) := hk
    have hm := mt_in hO hl v0 v1 (i := ln l) (by omega) (by omega) hp
    have hb := way_in (D := D) (a := hr D l (ln l)) (b := 0) hS hm.1 (by omega) (by omega) (by omega)
    have hb : mt D v l (ln l) ≤ bk D v l ∧ bk D v l ≤ 1000000 := hb
    have h12 := hl.1
    unfold cst
    rw [if_neg e]
    omega
/-- all rounds fit -/
def AF (D : sto) (nv : Int) (P : pln) : Prop := ∀ v, 0 ≤ v → v < nv → whyOf D v (P v) = 0
noncomputable def totN (D : sto) (P : pln) : Nat → Int
  | 0 => 0
  | n + 1 => totN D P n + cst D n (P n)
noncomputable def tot (D : sto) (nv : Int) (P : pln) : Int := totN D P nv.toNat
theorem tot_s {D : sto} {v : Int} {P : pln} (h : 0 ≤ v) : tot D (v + 1) P = tot D v P + cst D v (P v) := by
  unfold tot
  rw [show (v + 1).toNat = v.toNat + 1 by omega]
  show totN D P v.toNat + cst D ((v.toNat : Nat) : Int) (P ((v.toNat : Nat) : Int)) = _
  rw [show ((v.toNat : Nat) : Int) = v by omega]
theorem tot_in {D : sto} {ns nv : Int} {P : pln} (hO : DOK D ns nv) (hl : RVP ns P) (h : AF D nv P) : ∀ v, 0 ≤ v → v ≤ nv → 0 ≤ tot D v P ∧ tot D v P ≤ 60000 * v := by
  have hn := hO.1
  have key : ∀ n : Nat, (n : Int) ≤ nv → 0 ≤ tot D n P ∧ tot D n P ≤ 60000 * n := by
    intro n
    induction n with
    | zero => intro _; exact ⟨Int.le_refl _, Int.le_refl _⟩
    | succ n ih =>
      intro hn2
      have h1 := ih (by omega)
      have h2 := cst_in hO (hl n (by omega) (by omega)) (by omega) (by omega) (h n (by omega) (by omega))
      have h3 := tot_s (D := D) (P := P) (v := n) (by omega)
      have e3 : ((n + 1 : Nat) : Int) = (n : Int) + 1 := by omega
      rw [e3, h3]
      omega
  intro v v0 v1
  have := key v.toNat (by omega)
  rwa [show ((v.toNat : Nat) : Int) = v by omega] at this
theorem ct_total {σ D : sto} {ns nv p B : Int} {P : pln} (hC : DC σ D ns nv) (hO : DOK D ns nv) (hT : TC σ D B) (hB : B ≤ 4000) (hp : isPl p) (hP : PA σ p P) (hl : RVP ns P) : CI M_Trip_total 5 [vR 2, vR p] σ (fun r σ' => (AF D nv P ∧ r = tot D nv P ∨ ¬ AF D nv P ∧ r = -1) ∧ TC σ' D B ∧ JF σ σ') := by
  have hn := hO.1
  have hpi := pl_in hp
  have key : ∀ v, 0 ≤ v → v ≤ nv → ∀ σ1 : sto, TC σ1 D B → JF σ σ1 → (∀ u, 0 ≤ u → u < v → whyOf D u (P u) = 0) → Run M_Trip_total (rxI 5 (fun r σ' => (AF D nv P ∧ r = tot D nv P ∨ ¬ AF D nv P ∧ r = -1) ∧ TC σ' D B ∧ JF σ σ')) (0, 0) 4 [vR 2, vR p, vI (tot D v P), vI v] [] (sg σ1) := by
    refine up_ind (b := nv) ?_ ?_
    · intro σ1 hT1 hJ hf
      have h18 : σ1 18 0 = nv := (hJ.dc hC).2.1
      refine r_iload_n 3 d_Trip_total_4 rfl rfl ?_
      refine r_aload_n 0 d_Trip_total_5 rfl rfl ?_
      refine r_getR 18 d_Trip_total_6 fk_Trip_28 rfl rfl rfl (by decide) ?_
      refine r_getI 0 d_Trip_total_9 fk_Trip_90 rfl rfl rfl ?_
      rw [h18]
      refine r_icmp_ge 39 d_Trip_total_12 rfl (by omega) (by omega) (fun h12 => ?_) (fun h12 => absurd h12 (by omega))
      refine r_iload_n 2 d_Trip_total_39 rfl rfl ?_
      refine q_iret d_Trip_total_40 rfl ?_
      exact ⟨Or.inl ⟨hf, rfl⟩, hT1, hJ⟩
    · intro v v0 v1 ih σ1 hT1 hJ hf
      have h18 : σ1 18 0 = nv := (hJ.dc hC).2.1
      have hwi := whyOf_in D v (P v)
      refine r_iload_n 3 d_Trip_total_4 rfl rfl ?_
      refine r_aload_n 0 d_Trip_total_5 rfl rfl ?_
      refine r_getR 18 d_Trip_total_6 fk_Trip_28 rfl rfl rfl (by decide) ?_
      refine r_getI 0 d_Trip_total_9 fk_Trip_90 rfl rfl rfl ?_
      rw [h18]
      refine r_icmp_ge 39 d_Trip_total_12 rfl (by omega) (by omega) (fun h12 => absurd h12 (by omega)) (fun h12 => ?_)
      refine r_aload_n 0 d_Trip_total_15 rfl rfl ?_
      refine r_aload_n 1 d_Trip_total_16 rfl rfl ?_
      refine r_iload_n 3 d_Trip_total_17 rfl rfl ?_
      refine r_cVI 5 d_Trip_total_18 lk_Trip_93 vc_Trip_judge (ct_judge (hJ.dc hC) hO hT1 hB hp (hJ.pa hp hP) v0 v1 (hl v v0 (by omega))) rfl rfl rfl rfl ⟨Nat.le_of_ble_eq_true rfl, Nat.le_of_ble_eq_true rfl⟩ ⟨Nat.zero_le _, Nat.zero_le _⟩ (Nat.le_of_ble_eq_true rfl) (fun r18 s18 q18 => ?_)
      obtain ⟨e18, -, hT2, hJ2, hN⟩ := q18
      rw [e18]
      refine r_if_eq 26 d_Trip_total_21 rfl (by omega) (fun h21 => ?_) (fun h21 => ?_)
      · refine r_iload_n 2 d_Trip_total_26 rfl rfl ?_
        refine r_aload_n 0 d_Trip_total_27 rfl rfl ?_
        refine r_getI 9 d_Trip_total_28 fk_Trip_58 rfl rfl rfl ?_
        have hN2 := hN (e18.trans h21)
        rw [hN2.1]
        refine r_iadd d_Trip_total_31 ?_
        refine r_istore_n 2 d_Trip_total_32 rfl (by decide) rfl ?_
        refine r_iinc 3 d_Trip_total_33 rfl (by decide) rfl ?_
        refine r_goto 4 d_Trip_total_36 rfl ?_
        rw [tot_s v0] at ih
        refine ih _ hT2 (hJ.tr hJ2) (fun u u0 u1 => ?_)
        by_cases e : u = v
        · rw [e]; exact h21
        · exact hf u u0 (by omega)
      · refine r_iconst d_Trip_total_24 ?_
        refine q_iret d_Trip_total_25 rfl ?_
        exact ⟨Or.inr ⟨fun h => h21 (h v v0 v1), rfl⟩, hT2, hJ.tr hJ2⟩
  refine ci_of [vR 2, vR p, vU, vU] fy_Trip_total.1 rfl (Nat.le_of_ble_eq_true rfl) ?_
  refine r_iconst d_Trip_total_0 ?_
  refine r_istore_n 2 d_Trip_total_1 rfl (by decide) rfl ?_
  refine r_iconst d_Trip_total_2 ?_
  refine r_istore_n 3 d_Trip_total_3 rfl (by decide) rfl ?_
  exact key 0 (by omega) (by omega) σ hT JF.rf (fun u u0 u1 => by omega)
def mcN (D : sto) (l : List Int) : Nat → Int
  | 0 => 0
  | n + 1 => mcN D l n + (if D 0 (gt l n) = 4 then 1 else 0)
def mc (D : sto) (l : List Int) (i : Int) : Int := mcN D l i.toNat
theorem mc_s {D : sto} {l : List Int} {i : Int} (h : 0 ≤ i) : mc D l (i + 1) = mc D l i + (if D 0 (gt l i) = 4 then 1 else 0) := by
  unfold mc
  rw [show (i + 1).toNat = i.toNat + 1 by omega]
  show mcN D l i.toNat + (if D 0 (gt l ((i.toNat : Nat) : Int)) = 4 then 1 else 0) = _
  rw [show ((i.toNat : Nat) : Int) = i by omega]
/-- how many MUST stops are in the rounds of the first n vans -/
def mpN (D : sto) (P : pln) : Nat → Int
  | 0 => 0
  | n + 1 => mpN D P n + mc D (P n) (ln (P n))
def mp (D : sto) (P : pln) (v : Int) : Int := mpN D P v.toNat
theorem mp_s {D : sto} {P : pln} {v : Int} (h : 0 ≤ v) : mp D P (v + 1) = mp D P v + mc D (P v) (ln (P v)) := by
  unfold mp
  rw [show (v + 1).toNat = v.toNat + 1 by omega]
  show mpN D P v.toNat + mc D (P ((v.toNat : Nat) : Int)) (ln (P ((v.toNat : Nat) : Int))) = _
  rw [show ((v.toNat : Nat) : Int) = v by omega]
theorem mc_in (D : sto) (l : List Int) (n : Nat) : 0 ≤ mcN D l n ∧ mcN D l n ≤ n := by
  induction n with
  | zero => exact ⟨Int.le_refl _, Int.le_refl _⟩
  | succ n ih =>
    show 0 ≤ mcN D l n + _ ∧ mcN D l n + _ ≤ _
    split <;> omega
theorem mp_in {D : sto} {P : pln} (hl : ∀ v, 0 ≤ v → v < 3 → ln (P v) ≤ 12) : ∀ v, 0 ≤ v → v ≤ 3 → 0 ≤ mp D P v ∧ mp D P v ≤ 12 * v := by
  have key : ∀ n : Nat, n ≤ 3 → 0 ≤ mpN D P n ∧ mpN D P n ≤ 12 * n := by
    intro n
    induction n with
    | zero => intro _; exact ⟨Int.le_refl _, Int.le_refl _⟩
    | succ n ih =>
      intro hn
      have h1 := ih (by omega)
      have h2 := mc_in D (P n) (ln (P n)).toNat
      have h3 := hl n (by omega) (by omega)
      have h4 := ln0 (P n)
      show 0 ≤ mpN D P n + mcN D (P n) (ln (P n)).toNat ∧ mpN D P n + mcN D (P n) (ln (P n)).toNat ≤ _
      omega
  intro v v0 v1
  have := key v.toNat (by omega)
  unfold mp
  omega
theorem ct_mustsIn {σ D : sto} {ns nv p : Int} {P : pln} (hC : DC σ D ns nv) (hO : DOK D ns nv) (hp : isPl p) (hP : PA σ p P) (hl : RVP ns P) : CI M_Trip_mustsIn 0 [vR 2, vR p] σ (fun r σ' => r = mp D P nv ∧ σ' = σ) := by
  have hn := hO.1
  have hpi := pl_in hp
  have h18 := hC.2.1
  have key : ∀ v, 0 ≤ v → v ≤ nv → Run M_Trip_mustsIn (rxI 0 (fun r σ' => r = mp D P nv ∧ σ' = σ)) (0, 0) 4 [vR 2, vR p, vI (mp D P v), vI v, vU] [] (sg σ) := by
    refine up_ind (b := nv) ?_ ?_
    · skip
      refine r_iload_n 3 d_Trip_mustsIn_4 rfl rfl ?_
      refine r_aload_n 0 d_Trip_mustsIn_5 rfl rfl ?_
      refine r_getR 18 d_Trip_mustsIn_6 fk_Trip_28 rfl rfl rfl (by decide) ?_
      refine r_getI 0 d_Trip_mustsIn_9 fk_Trip_90 rfl rfl rfl ?_
      refine r_icmp_ge 65 d_Trip_mustsIn_12 rfl (by omega) (by omega) (fun h12 => ?_) (fun h12 => absurd h12 (by omega))
      refine r_iload_n 2 d_Trip_mustsIn_65 rfl rfl ?_
      refine q_iret d_Trip_mustsIn_66 rfl ?_
      exact ⟨rfl, rfl⟩
    · intro v v0 v1 ih
      have hz := hP.len v0 (by omega)
      have k2 : ∀ i, 0 ≤ i → i ≤ ln (P v) → Run M_Trip_mustsIn (rxI 0 (fun r σ' => r = mp D P nv ∧ σ' = σ)) (0, 0) 18 [vR 2, vR p, vI (mp D P v + mc D (P v) i), vI v, vI i] [] (sg σ) := by
        refine up_ind (b := ln (P v)) ?_ ?_
        · rw [← mp_s v0]
          refine r_iload 4 d_Trip_mustsIn_18 rfl ?_
          refine r_aload_n 1 d_Trip_mustsIn_20 rfl rfl ?_
          refine r_getR (p + 5) d_Trip_mustsIn_21 fk_Trip_51 (kd_pl hp) rfl (lay_p1 hp) (by have := pl_in hp; omega) ?_
          refine r_iload_n 3 d_Trip_mustsIn_24 rfl rfl ?_
          refine r_iald 3 d_Trip_mustsIn_25 (kd_ps hp) (al_ps hp) (by omega) (by omega) ?_
          refine r_icmp_ge 59 d_Trip_mustsIn_26 rfl (by omega) (by omega) (fun h26 => ?_) (fun h26 => absurd h26 (by omega))
          refine r_iinc 3 d_Trip_mustsIn_59 rfl (by decide) rfl ?_
          refine r_goto 4 d_Trip_mustsIn_62 rfl ?_
          exact r_drop 4 ih
        · intro i i0 i1 ih2
          have he := hP.el v0 (by omega) i0 i1
          have hs := (hl v v0 (by omega)).2 i i0 i1
          have hk := (hC.at hs.1 (by omega)).1
          have hd := (hO.2.1 _ hs.1 hs.2).1
          rw [mc_s i0] at ih2
          refine r_iload 4 d_Trip_mustsIn_18 rfl ?_
          refine r_aload_n 1 d_Trip_mustsIn_20 rfl rfl ?_
          refine r_getR (p + 5) d_Trip_mustsIn_21 fk_Trip_51 (kd_pl hp) rfl (lay_p1 hp) (by have := pl_in hp; omega) ?_
          refine r_iload_n 3 d_Trip_mustsIn_24 rfl rfl ?_
          refine r_iald 3 d_Trip_mustsIn_25 (kd_ps hp) (al_ps hp) (by omega) (by omega) ?_
          refine r_icmp_ge 59 d_Trip_mustsIn_26 rfl (by omega) (by omega) (fun h26 => absurd h26 (by omega)) (fun h26 => ?_)
          refine r_aload_n 0 d_Trip_mustsIn_29 rfl rfl ?_
          refine r_getR 9 d_Trip_mustsIn_30 fk_Trip_21 rfl rfl rfl (by decide) ?_
          refine r_getR 10 d_Trip_mustsIn_33 fk_Trip_97 rfl rfl rfl (by decide) ?_
          refine r_aload_n 1 d_Trip_mustsIn_36 rfl rfl ?_
          refine r_getR (p + 1) d_Trip_mustsIn_37 fk_Trip_45 (kd_pl hp) rfl (lay_p0 hp) (by have := pl_in hp; omega) ?_
          refine r_iload_n 3 d_Trip_mustsIn_40 rfl rfl ?_
          refine r_aald 3 _ d_Trip_mustsIn_41 (Or.inr (kd_pr hp)) (al_pr hp) (by omega) (by omega) (lay_pr hp (by omega) (by omega)) (by omega) ?_
          refine r_iload 4 d_Trip_mustsIn_42 rfl ?_
          refine r_iald 12 d_Trip_mustsIn_44 (kd_pw hp (by omega) (by omega)) (al_pw hp (by omega) (by omega)) (by omega) (by omega) ?_
          rw [he.1]
          refine r_iald 12 d_Trip_mustsIn_45 rfl rfl (by omega) (by omega) ?_
          rw [hk]
          refine r_iconst d_Trip_mustsIn_46 ?_
          refine r_icmp_ne 53 d_Trip_mustsIn_47 rfl (by omega) (by omega) (fun h47 => ?_) (fun h47 => ?_)
          · refine r_iinc 4 d_Trip_mustsIn_53 rfl (by decide) rfl ?_
            refine r_goto 18 d_Trip_mustsIn_56 rfl ?_
            first
              | (rw [if_pos h47, ← Int.add_assoc] at ih2; exact ih2)
              | (rw [if_neg h47, Int.add_zero] at ih2; exact ih2)
          · refine r_iinc 2 d_Trip_mustsIn_50 rfl (by decide) rfl ?_
            refine r_iinc 4 d_Trip_mustsIn_53 rfl (by decide) rfl ?_
            refine r_goto 18 d_Trip_mustsIn_56 rfl ?_
            first
              | (rw [if_pos h47, ← Int.add_assoc] at ih2; exact ih2)
              | (rw [if_neg h47, Int.add_zero] at ih2; exact ih2)
      refine r_iload_n 3 d_Trip_mustsIn_4 rfl rfl ?_
      refine r_aload_n 0 d_Trip_mustsIn_5 rfl rfl ?_
      refine r_getR 18 d_Trip_mustsIn_6 fk_Trip_28 rfl rfl rfl (by decide) ?_
      refine r_getI 0 d_Trip_mustsIn_9 fk_Trip_90 rfl rfl rfl ?_
      refine r_icmp_ge 65 d_Trip_mustsIn_12 rfl (by omega) (by omega) (fun h12 => absurd h12 (by omega)) (fun h12 => ?_)
      refine r_iconst d_Trip_mustsIn_15 ?_
      refine r_istore 4 d_Trip_mustsIn_16 (by decide) rfl ?_
      have h := k2 0 (by omega) (by omega)
      have e : mc D (P v) 0 = 0 := rfl
      rw [e, Int.add_zero] at h
      exact h
  refine ci_of [vR 2, vR p, vU, vU, vU] fy_Trip_mustsIn.1 rfl (Nat.le_of_ble_eq_true rfl) ?_
  refine r_iconst d_Trip_mustsIn_0 ?_
  refine r_istore_n 2 d_Trip_mustsIn_1 rfl (by decide) rfl ?_
  refine r_iconst d_Trip_mustsIn_2 ?_
  refine r_istore_n 3 d_Trip_mustsIn_3 rfl (by decide) rfl ?_
  exact key 0 (by omega) (by omega)
