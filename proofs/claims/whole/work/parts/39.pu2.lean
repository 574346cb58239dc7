-- THE CLASS: more of its calls that leave the data (walks written by wip/whole/gen_pu2.py)
theorem cnt_al3 {P : pln} {s : Int} : (al3 P).count s = (P 0).count s + ((P 1).count s + (P 2).count s) := by
  unfold al3; rw [List.count_append, List.count_append]
theorem PO.cross {ns nv : Int} {P : pln} (h : PO ns nv P) (hv3 : nv ≤ 3) {v u i j : Int} (v0 : 0 ≤ v) (v1 : v < nv) (u0 : 0 ≤ u) (u1 : u < nv) (hvu : v ≠ u) (i0 : 0 ≤ i) (i1 : i ≤ ln (P v)) (j0 : 0 ≤ j) (j1 : j ≤ ln (P u)) : PO ns nv (up (up P v (endA (P v) i (P u) j)) u (endA (P u) j (P v) i)) := by
  refine h.of_perm (List.perm_iff_count.mpr (fun s => ?_)) (fun w h1 h2 h3 => ?_)
  · rw [cnt_al3, cnt_al3, endA_eq i0 i1 j0 j1, endA_eq j0 j1 i0 i1]
    have e1 : (P v).count s = ((P v).take i.toNat).count s + ((P v).drop i.toNat).count s := by rw [← List.count_append, List.take_append_drop]
    have e2 : (P u).count s = ((P u).take j.toNat).count s + ((P u).drop j.toNat).count s := by rw [← List.count_append, List.take_append_drop]
    have hv : v = 0 ∨ v = 1 ∨ v = 2 := by omega
    have hu : u = 0 ∨ u = 1 ∨ u = 2 := by omega
    rcases hv with rfl | rfl | rfl <;> rcases hu with rfl | rfl | rfl <;> first | exact absurd rfl hvu | (unfold up; simp only [List.count_append, if_true, if_false, reduceCtorEq, Int.reduceEq, ite_true, ite_false]; omega)
  · rw [up_ne (by omega), up_ne (by omega)]; exact h.2.2 w h1 h2 h3
theorem sz2 {P : pln} {v u : Int} (v0 : 0 ≤ v) (v1 : v < 3) (u0 : 0 ≤ u) (u1 : u < 3) (h : v ≠ u) : ln (P v) + ln (P u) ≤ szP P := by
  unfold szP
  have a := ln0 (P 0)
  have b := ln0 (P 1)
  have c := ln0 (P 2)
  have hv : v = 0 ∨ v = 1 ∨ v = 2 := by omega
  have hu : u = 0 ∨ u = 1 ∨ u = 2 := by omega
  rcases hv with rfl | rfl | rfl <;> rcases hu with rfl | rfl | rfl <;> first | exact absurd rfl h | omega
theorem PO.turn {ns nv : Int} {P : pln} (h : PO ns nv P) (hv3 : nv ≤ 3) {v i j : Int} (v0 : 0 ≤ v) (v1 : v < nv) (i0 : 0 ≤ i) (hij : i < j) (j1 : j < ln (P v)) : PO ns nv (up P v (revA (P v) i j)) := by
  obtain ⟨r, h1, h2⟩ := al3_up (P := P) v0 (show v < 3 by omega)
  refine h.of_perm (((h2 _).trans ((rev_perm i0 hij j1).append_right r)).trans h1.symm) (fun w h1 h2 h3 => ?_)
  rw [up_ne (by omega)]; exact h.2.2 w h1 h2 h3
theorem cmpI_c (x y : Int) : (x < y ∧ cmpI x y = -1) ∨ (x = y ∧ cmpI x y = 0) ∨ (y < x ∧ cmpI x y = 1) := by
  unfold cmpI
  split
  · omega
  · split <;> omega
theorem bldP_ok {g : G} (hk : g.ok) : PO g.ns g.nv (bld g.D g.ns g.nv g.P) ∧ AF g.D g.nv (bld g.D g.ns g.nv g.P) := bldN_ok hk.1 12 hk.2.1 hk.2.2.1
theorem btN_s {D : sto} {ns nv : Int} {P : pln} {n : Nat} : btN D ns nv P (n + 1) = if mvs D ns nv P < ns then ((btN D ns nv (imp D ns nv P) n).1 + 1, (btN D ns nv (imp D ns nv P) n).2) else (0, P) := rfl
theorem btN_ok {D : sto} {ns nv : Int} (hO : DOK D ns nv) : ∀ (n : Nat) {P : pln}, PO ns nv P → AF D nv P → PO ns nv (btN D ns nv P n).2 ∧ AF D nv (btN D ns nv P n).2 := by
  intro n
  induction n with
  | zero => intro P a b; exact ⟨a, b⟩
  | succ n ih =>
    intro P a b
    unfold btN
    by_cases h : mvs D ns nv P < ns
    · rw [if_pos h]; have := imp_ok hO a h; exact ih this.1 this.2.1
    · rw [if_neg h]; exact ⟨a, b⟩
theorem cv_cross {σ : sto} {g : G} {B v i u j : Int} (hI : OI σ g B) (hB : B ≤ 3998) (hk : g.ok) (h_v : inR v) (h_i : inR i) (h_u : inR u) (h_j : inR j) : CI M_Van_cross 14 [vR 0, vI v, vI i, vI u, vI j] σ (PV (sp_cross g v i u j) σ B) := by
  obtain ⟨h1, hT, hQ, hU, h09, hrn, h010, hrf⟩ := id hI
  obtain ⟨k1, k2, k3, k4, k5, k6⟩ := id hk
  have hn := k1.1
  have hRV := k2.rv hn.1 hn.2.1
  refine ci_of [vR 0, vI v, vI i, vI u, vI j] fy_Van_cross.1 rfl (Nat.le_of_ble_eq_true rfl) ?_
  refine r_aload_n 0 d_Van_cross_0 rfl rfl ?_
  refine r_iload_n 1 d_Van_cross_1 rfl rfl ?_
  refine r_iload_n 2 d_Van_cross_2 rfl rfl ?_
  refine r_cVI 7 d_Van_cross_3 lk_Van_207 vc_Van_isGap (ct_isGap h1 k1 hQ (by omega) (by omega)) rfl rfl rfl rfl ⟨Nat.le_of_ble_eq_true rfl, Nat.le_of_ble_eq_true rfl⟩ ⟨Nat.zero_le _, Nat.zero_le _⟩ (Nat.le_of_ble_eq_true rfl) (fun r3 s3 q3 => ?_)
  obtain ⟨q3, hs3⟩ := q3
  have hs3 := hs3.symm
  subst hs3
  refine r_if_eq 19 d_Van_cross_6 rfl (by omega) (fun h6 => ?_) (fun h6 => ?_)
  · refine r_aload_n 0 d_Van_cross_19 rfl rfl ?_
    refine r_bipush d_Van_cross_20 (by decide) ?_
    refine r_cVI 7 d_Van_cross_22 lk_Van_74 vc_Van_refuse (ct_refuse (by omega)) rfl rfl rfl rfl ⟨Nat.le_of_ble_eq_true rfl, Nat.le_of_ble_eq_true rfl⟩ ⟨Nat.zero_le _, Nat.zero_le _⟩ (Nat.le_of_ble_eq_true rfl) (fun r22 s22 q22 => ?_)
    have q := q22
    refine q_iret d_Van_cross_25 rfl ?_
    exact fin_no hI (by omega) hk VF.rf q (by unfold sp_cross; (repeat (first | rw [if_pos (by omega)] | rw [if_neg (by omega)])); (try rfl))
  · refine r_aload_n 0 d_Van_cross_9 rfl rfl ?_
    refine r_iload_n 3 d_Van_cross_10 rfl rfl ?_
    refine r_iload 4 d_Van_cross_11 rfl ?_
    refine r_cVI 7 d_Van_cross_13 lk_Van_207 vc_Van_isGap (ct_isGap h1 k1 hQ (by omega) (by omega)) rfl rfl rfl rfl ⟨Nat.le_of_ble_eq_true rfl, Nat.le_of_ble_eq_true rfl⟩ ⟨Nat.zero_le _, Nat.zero_le _⟩ (Nat.le_of_ble_eq_true rfl) (fun r13 s13 q13 => ?_)
    obtain ⟨q13, hs13⟩ := q13
    have hs13 := hs13.symm
    subst hs13
    refine r_if_ne 26 d_Van_cross_16 rfl (by omega) (fun h16 => ?_) (fun h16 => ?_)
    · refine r_iload_n 1 d_Van_cross_26 rfl rfl ?_
      refine r_iload_n 3 d_Van_cross_27 rfl rfl ?_
      refine r_icmp_ne 38 d_Van_cross_28 rfl (by omega) (by omega) (fun h28 => ?_) (fun h28 => ?_)
      · have s2 := sz2 (P := g.P) (v := v) (u := u) (by omega) (by omega) (by omega) (by omega) h28
        have sz := k2.size hn.1
        have pc := k2.cross hn.2.2.2 (v := v) (u := u) (i := i) (j := j) (by omega) (by omega) (by omega) (by omega) h28 (by omega) (by omega) (by omega) (by omega)
        refine r_aload_n 0 d_Van_cross_38 rfl rfl ?_
        refine r_getR 27 d_Van_cross_39 fk_Van_20 rfl rfl rfl (by decide) ?_
        refine r_aload_n 0 d_Van_cross_42 rfl rfl ?_
        refine r_getR 39 d_Van_cross_43 fk_Van_46 rfl rfl rfl (by decide) ?_
        refine r_cVV 1 d_Van_cross_46 lk_Van_210 vc_Plan_become (ct_become pl27 pl39 (by decide) hQ) rfl rfl rfl rfl ⟨Nat.le_of_ble_eq_true rfl, Nat.le_of_ble_eq_true rfl⟩ ⟨Nat.zero_le _, Nat.zero_le _⟩ (Nat.le_of_ble_eq_true rfl) (fun s46 q46 => ?_)
        obtain ⟨a1, a2⟩ := q46
        have hI1 := hI.keep a2.pf (a2.tc pl27 hT)
        refine r_aload_n 0 d_Van_cross_49 rfl rfl ?_
        refine r_getR 27 d_Van_cross_50 fk_Van_20 rfl rfl rfl (by decide) ?_
        refine r_iload_n 1 d_Van_cross_53 rfl rfl ?_
        refine r_iload_n 2 d_Van_cross_54 rfl rfl ?_
        refine r_aload_n 0 d_Van_cross_55 rfl rfl ?_
        refine r_getR 39 d_Van_cross_56 fk_Van_46 rfl rfl rfl (by decide) ?_
        refine r_iload_n 3 d_Van_cross_59 rfl rfl ?_
        refine r_iload 4 d_Van_cross_60 rfl ?_
        refine r_cVV 1 d_Van_cross_62 lk_Van_228 vc_Plan_takeEnd (ct_takeEnd pl27 pl39 (by decide) a1 hI1.2.2.1 (by omega) (by omega) (by omega) (by omega) (by omega) (by omega) (by omega) (by omega) (by omega)) rfl rfl rfl rfl ⟨Nat.le_of_ble_eq_true rfl, Nat.le_of_ble_eq_true rfl⟩ ⟨Nat.zero_le _, Nat.zero_le _⟩ (Nat.le_of_ble_eq_true rfl) (fun s62 q62 => ?_)
        obtain ⟨b1, b2⟩ := q62
        have hI2 := hI1.keep b2.pf (b2.tc pl27 hI1.2.1)
        refine r_aload_n 0 d_Van_cross_65 rfl rfl ?_
        refine r_getR 27 d_Van_cross_66 fk_Van_20 rfl rfl rfl (by decide) ?_
        refine r_iload_n 3 d_Van_cross_69 rfl rfl ?_
        refine r_iload 4 d_Van_cross_70 rfl ?_
        refine r_aload_n 0 d_Van_cross_72 rfl rfl ?_
        refine r_getR 39 d_Van_cross_73 fk_Van_46 rfl rfl rfl (by decide) ?_
        refine r_iload_n 1 d_Van_cross_76 rfl rfl ?_
        refine r_iload_n 2 d_Van_cross_77 rfl rfl ?_
        refine r_cVV 1 d_Van_cross_78 lk_Van_228 vc_Plan_takeEnd (ct_takeEnd pl27 pl39 (by decide) b1 hI2.2.2.1 (by omega) (by omega) (by omega) (by omega) (by omega) (by rw [up_ne (by omega)]; omega) (by omega) (by omega) (by omega)) rfl rfl rfl rfl ⟨Nat.le_of_ble_eq_true rfl, Nat.le_of_ble_eq_true rfl⟩ ⟨Nat.zero_le _, Nat.zero_le _⟩ (Nat.le_of_ble_eq_true rfl) (fun s78 q78 => ?_)
        obtain ⟨c1, c2⟩ := q78
        rw [up_ne (show u ≠ v by omega)] at c1
        have hI3 := hI2.keep c2.pf (c2.tc pl27 hI2.2.1)
        refine r_aload_n 0 d_Van_cross_81 rfl rfl ?_
        refine r_cVI 7 d_Van_cross_82 lk_Van_220 vc_Van_settle (ct_settle hI3 (by omega) hk c1 pc ((a2.pf.vf.tr b2.pf.vf).tr c2.pf.vf)) rfl rfl rfl rfl ⟨Nat.le_of_ble_eq_true rfl, Nat.le_of_ble_eq_true rfl⟩ ⟨Nat.zero_le _, Nat.zero_le _⟩ (Nat.le_of_ble_eq_true rfl) (fun r82 s82 q82 => ?_)
        refine q_iret d_Van_cross_85 rfl ?_
        exact fin_eq q82 (by unfold sp_cross; (repeat (first | rw [if_pos (by omega)] | rw [if_neg (by omega)])); (try rfl))
      · refine r_aload_n 0 d_Van_cross_31 rfl rfl ?_
        refine r_bipush d_Van_cross_32 (by decide) ?_
        refine r_cVI 7 d_Van_cross_34 lk_Van_74 vc_Van_refuse (ct_refuse (by omega)) rfl rfl rfl rfl ⟨Nat.le_of_ble_eq_true rfl, Nat.le_of_ble_eq_true rfl⟩ ⟨Nat.zero_le _, Nat.zero_le _⟩ (Nat.le_of_ble_eq_true rfl) (fun r34 s34 q34 => ?_)
        have q := q34
        refine q_iret d_Van_cross_37 rfl ?_
        exact fin_no hI (by omega) hk VF.rf q (by unfold sp_cross; (repeat (first | rw [if_pos (by omega)] | rw [if_neg (by omega)])); (try rfl))
    · refine r_aload_n 0 d_Van_cross_19 rfl rfl ?_
      refine r_bipush d_Van_cross_20 (by decide) ?_
      refine r_cVI 7 d_Van_cross_22 lk_Van_74 vc_Van_refuse (ct_refuse (by omega)) rfl rfl rfl rfl ⟨Nat.le_of_ble_eq_true rfl, Nat.le_of_ble_eq_true rfl⟩ ⟨Nat.zero_le _, Nat.zero_le _⟩ (Nat.le_of_ble_eq_true rfl) (fun r22 s22 q22 => ?_)
      have q := q22
      refine q_iret d_Van_cross_25 rfl ?_
      exact fin_no hI (by omega) hk VF.rf q (by unfold sp_cross; (repeat (first | rw [if_pos (by omega)] | rw [if_neg (by omega)])); (try rfl))
theorem cv_turn {σ : sto} {g : G} {B v i j : Int} (hI : OI σ g B) (hB : B ≤ 3998) (hk : g.ok) (h_v : inR v) (h_i : inR i) (h_j : inR j) : CI M_Van_turn 14 [vR 0, vI v, vI i, vI j] σ (PV (sp_turn g v i j) σ B) := by
  obtain ⟨h1, hT, hQ, hU, h09, hrn, h010, hrf⟩ := id hI
  obtain ⟨k1, k2, k3, k4, k5, k6⟩ := id hk
  have hn := k1.1
  have hRV := k2.rv hn.1 hn.2.1
  refine ci_of [vR 0, vI v, vI i, vI j] fy_Van_turn.1 rfl (Nat.le_of_ble_eq_true rfl) ?_
  refine r_aload_n 0 d_Van_turn_0 rfl rfl ?_
  refine r_getR 18 d_Van_turn_1 fk_Van_42 rfl rfl rfl (by decide) ?_
  refine r_iload_n 1 d_Van_turn_4 rfl rfl ?_
  refine r_cVI 6 d_Van_turn_5 lk_Van_163 vc_Vans_has (ct_hasV h1 k1 (by omega)) rfl rfl rfl rfl ⟨Nat.le_of_ble_eq_true rfl, Nat.le_of_ble_eq_true rfl⟩ ⟨Nat.zero_le _, Nat.zero_le _⟩ (Nat.le_of_ble_eq_true rfl) (fun r5 s5 q5 => ?_)
  obtain ⟨q5, hs5⟩ := q5
  have hs5 := hs5.symm
  subst hs5
  refine r_if_eq 29 d_Van_turn_8 rfl (by omega) (fun h8 => ?_) (fun h8 => ?_)
  · refine r_aload_n 0 d_Van_turn_29 rfl rfl ?_
    refine r_bipush d_Van_turn_30 (by decide) ?_
    refine r_cVI 7 d_Van_turn_32 lk_Van_74 vc_Van_refuse (ct_refuse (by omega)) rfl rfl rfl rfl ⟨Nat.le_of_ble_eq_true rfl, Nat.le_of_ble_eq_true rfl⟩ ⟨Nat.zero_le _, Nat.zero_le _⟩ (Nat.le_of_ble_eq_true rfl) (fun r32 s32 q32 => ?_)
    have q := q32
    refine q_iret d_Van_turn_35 rfl ?_
    exact fin_no hI (by omega) hk VF.rf q (by unfold sp_turn; (repeat (first | rw [if_pos (by omega)] | rw [if_neg (by omega)])); (try rfl))
  · refine r_aload_n 0 d_Van_turn_11 rfl rfl ?_
    refine r_iload_n 1 d_Van_turn_12 rfl rfl ?_
    refine r_iload_n 2 d_Van_turn_13 rfl rfl ?_
    refine r_cVI 7 d_Van_turn_14 lk_Van_232 vc_Van_isTaken (ct_isTaken hQ (by omega) (by omega) (by omega)) rfl rfl rfl rfl ⟨Nat.le_of_ble_eq_true rfl, Nat.le_of_ble_eq_true rfl⟩ ⟨Nat.zero_le _, Nat.zero_le _⟩ (Nat.le_of_ble_eq_true rfl) (fun r14 s14 q14 => ?_)
    obtain ⟨q14, hs14⟩ := q14
    have hs14 := hs14.symm
    subst hs14
    refine r_if_eq 29 d_Van_turn_17 rfl (by omega) (fun h17 => ?_) (fun h17 => ?_)
    · refine r_aload_n 0 d_Van_turn_29 rfl rfl ?_
      refine r_bipush d_Van_turn_30 (by decide) ?_
      refine r_cVI 7 d_Van_turn_32 lk_Van_74 vc_Van_refuse (ct_refuse (by omega)) rfl rfl rfl rfl ⟨Nat.le_of_ble_eq_true rfl, Nat.le_of_ble_eq_true rfl⟩ ⟨Nat.zero_le _, Nat.zero_le _⟩ (Nat.le_of_ble_eq_true rfl) (fun r32 s32 q32 => ?_)
      have q := q32
      refine q_iret d_Van_turn_35 rfl ?_
      exact fin_no hI (by omega) hk VF.rf q (by unfold sp_turn; (repeat (first | rw [if_pos (by omega)] | rw [if_neg (by omega)])); (try rfl))
    · refine r_aload_n 0 d_Van_turn_20 rfl rfl ?_
      refine r_iload_n 1 d_Van_turn_21 rfl rfl ?_
      refine r_iload_n 3 d_Van_turn_22 rfl rfl ?_
      refine r_cVI 7 d_Van_turn_23 lk_Van_232 vc_Van_isTaken (ct_isTaken hQ (by omega) (by omega) (by omega)) rfl rfl rfl rfl ⟨Nat.le_of_ble_eq_true rfl, Nat.le_of_ble_eq_true rfl⟩ ⟨Nat.zero_le _, Nat.zero_le _⟩ (Nat.le_of_ble_eq_true rfl) (fun r23 s23 q23 => ?_)
      obtain ⟨q23, hs23⟩ := q23
      have hs23 := hs23.symm
      subst hs23
      refine r_if_ne 36 d_Van_turn_26 rfl (by omega) (fun h26 => ?_) (fun h26 => ?_)
      · refine r_iload_n 2 d_Van_turn_36 rfl rfl ?_
        refine r_iload_n 3 d_Van_turn_37 rfl rfl ?_
        refine r_icmp_lt 48 d_Van_turn_38 rfl (by omega) (by omega) (fun h38 => ?_) (fun h38 => ?_)
        · refine r_aload_n 0 d_Van_turn_48 rfl rfl ?_
          refine r_getR 27 d_Van_turn_49 fk_Van_20 rfl rfl rfl (by decide) ?_
          refine r_aload_n 0 d_Van_turn_52 rfl rfl ?_
          refine r_getR 39 d_Van_turn_53 fk_Van_46 rfl rfl rfl (by decide) ?_
          refine r_cVV 1 d_Van_turn_56 lk_Van_210 vc_Plan_become (ct_become pl27 pl39 (by decide) hQ) rfl rfl rfl rfl ⟨Nat.le_of_ble_eq_true rfl, Nat.le_of_ble_eq_true rfl⟩ ⟨Nat.zero_le _, Nat.zero_le _⟩ (Nat.le_of_ble_eq_true rfl) (fun s56 q56 => ?_)
          obtain ⟨a1, a2⟩ := q56
          have hI1 := hI.keep a2.pf (a2.tc pl27 hT)
          refine r_aload_n 0 d_Van_turn_59 rfl rfl ?_
          refine r_getR 27 d_Van_turn_60 fk_Van_20 rfl rfl rfl (by decide) ?_
          refine r_iload_n 1 d_Van_turn_63 rfl rfl ?_
          refine r_iload_n 2 d_Van_turn_64 rfl rfl ?_
          refine r_iload_n 3 d_Van_turn_65 rfl rfl ?_
          refine r_cVV 1 d_Van_turn_66 lk_Van_235 vc_Plan_reverse (ct_reverse pl27 a1 (by omega) (by omega) (by omega) (by omega) (by omega)) rfl rfl rfl rfl ⟨Nat.le_of_ble_eq_true rfl, Nat.le_of_ble_eq_true rfl⟩ ⟨Nat.zero_le _, Nat.zero_le _⟩ (Nat.le_of_ble_eq_true rfl) (fun s66 q66 => ?_)
          obtain ⟨b1, b2⟩ := q66
          have hI2 := hI1.keep b2.pf (b2.tc pl27 hI1.2.1)
          refine r_aload_n 0 d_Van_turn_69 rfl rfl ?_
          refine r_cVI 7 d_Van_turn_70 lk_Van_220 vc_Van_settle (ct_settle hI2 (by omega) hk b1 (k2.turn hn.2.2.2 (by omega) (by omega) (by omega) (by omega) (by omega)) (a2.pf.vf.tr b2.pf.vf)) rfl rfl rfl rfl ⟨Nat.le_of_ble_eq_true rfl, Nat.le_of_ble_eq_true rfl⟩ ⟨Nat.zero_le _, Nat.zero_le _⟩ (Nat.le_of_ble_eq_true rfl) (fun r70 s70 q70 => ?_)
          refine q_iret d_Van_turn_73 rfl ?_
          exact fin_eq q70 (by unfold sp_turn; (repeat (first | rw [if_pos (by omega)] | rw [if_neg (by omega)])); (try rfl))
        · refine r_aload_n 0 d_Van_turn_41 rfl rfl ?_
          refine r_bipush d_Van_turn_42 (by decide) ?_
          refine r_cVI 7 d_Van_turn_44 lk_Van_74 vc_Van_refuse (ct_refuse (by omega)) rfl rfl rfl rfl ⟨Nat.le_of_ble_eq_true rfl, Nat.le_of_ble_eq_true rfl⟩ ⟨Nat.zero_le _, Nat.zero_le _⟩ (Nat.le_of_ble_eq_true rfl) (fun r44 s44 q44 => ?_)
          have q := q44
          refine q_iret d_Van_turn_47 rfl ?_
          exact fin_no hI (by omega) hk VF.rf q (by unfold sp_turn; (repeat (first | rw [if_pos (by omega)] | rw [if_neg (by omega)])); (try rfl))
      · refine r_aload_n 0 d_Van_turn_29 rfl rfl ?_
        refine r_bipush d_Van_turn_30 (by decide) ?_
        refine r_cVI 7 d_Van_turn_32 lk_Van_74 vc_Van_refuse (ct_refuse (by omega)) rfl rfl rfl rfl ⟨Nat.le_of_ble_eq_true rfl, Nat.le_of_ble_eq_true rfl⟩ ⟨Nat.zero_le _, Nat.zero_le _⟩ (Nat.le_of_ble_eq_true rfl) (fun r32 s32 q32 => ?_)
        have q := q32
        refine q_iret d_Van_turn_35 rfl ?_
        exact fin_no hI (by omega) hk VF.rf q (by unfold sp_turn; (repeat (first | rw [if_pos (by omega)] | rw [if_neg (by omega)])); (try rfl))
theorem cv_build {σ : sto} {g : G} {B : Int} (hI : OI σ g B) (hB : B ≤ 3998) (hk : g.ok) : CI M_Van_build 14 [vR 0] σ (PV (sp_build g) σ B) := by
  obtain ⟨h1, hT, hQ, hU, h09, hrn, h010, hrf⟩ := id hI
  obtain ⟨k1, k2, k3, k4, k5, k6⟩ := id hk
  have hn := k1.1
  have hRV := k2.rv hn.1 hn.2.1
  have hbo := bldP_ok hk
  have k53 : ∀ (k : Int) (σ1 : sto), OI σ1 g B → PA σ1 27 (bld g.D g.ns g.nv g.P) → VF σ σ1 → Run M_Van_build (rxI 14 (PV (sp_build g) σ B)) (0, 0) 53 [vR 0, vI (szP g.P), vI k] [] (sg σ1) := by
    intro k σ1 hI1 hQ1 hF1
    refine r_aload_n 0 d_Van_build_53 rfl rfl ?_
    refine r_cVV 7 d_Van_build_54 lk_Van_248 vc_Van_adopt (ct_adopt hI1 hQ1) rfl rfl rfl rfl ⟨Nat.le_of_ble_eq_true rfl, Nat.le_of_ble_eq_true rfl⟩ ⟨Nat.zero_le _, Nat.zero_le _⟩ (Nat.le_of_ble_eq_true rfl) (fun s54 q54 => ?_)
    obtain ⟨a1, a2, a3⟩ := q54
    refine r_aload_n 0 d_Van_build_57 rfl rfl ?_
    refine r_getR 27 d_Van_build_58 fk_Van_20 rfl rfl rfl (by decide) ?_
    refine r_cVP 1 d_Van_build_61 lk_Van_238 vc_Plan_size (ct_size pl27 a2) rfl rfl rfl rfl ⟨Nat.le_of_ble_eq_true rfl, Nat.le_of_ble_eq_true rfl⟩ ⟨Nat.zero_le _, Nat.zero_le _⟩ (Nat.le_of_ble_eq_true rfl) ?_
    refine r_iload_n 1 d_Van_build_64 rfl rfl ?_
    refine r_isub d_Van_build_65 ?_
    refine q_iret d_Van_build_66 rfl ?_
    exact fin_ok a1 (by omega) (adopt_ok hk hbo.1 hbo.2) (hF1.tr a3) rfl
  have L : ∀ k, 0 ≤ k → k ≤ 12 → ∀ (σ1 : sto) (R : pln), OI σ1 g B → PA σ1 27 R → PO g.ns g.nv R → AF g.D g.nv R → bld g.D g.ns g.nv R = bld g.D g.ns g.nv g.P → k ≤ szP R → VF σ σ1 → Run M_Van_build (rxI 14 (PV (sp_build g) σ B)) (0, 0) 21 [vR 0, vI (szP g.P), vI k] [] (sg σ1) := by
    refine up_ind (b := 12) ?_ ?_
    · intro σ1 R hI1 hQ1 hP1 hA1 hb1 hk1 hF1
      refine r_iload_n 2 d_Van_build_21 rfl rfl ?_
      refine r_bipush d_Van_build_22 (by decide) ?_
      refine r_icmp_ge 53 d_Van_build_24 rfl (by omega) (by omega) (fun h24 => ?_) (fun h24 => absurd h24 (by omega))
      exact k53 12 σ1 hI1 (by rw [← hb1, bld_none (fp_full k1 hP1 hA1 (by omega))]; exact hQ1) hF1
    · intro k k0 kk ihk σ1 R hI1 hQ1 hP1 hA1 hb1 hk1 hF1
      refine r_iload_n 2 d_Van_build_21 rfl rfl ?_
      refine r_bipush d_Van_build_22 (by decide) ?_
      refine r_icmp_ge 53 d_Van_build_24 rfl (by omega) (by omega) (fun h24 => absurd h24 (by omega)) (fun h24 => ?_)
      refine r_aload_n 0 d_Van_build_27 rfl rfl ?_
      refine r_getR 1 d_Van_build_28 fk_Van_12 rfl rfl rfl (by decide) ?_
      refine r_cVI 2 d_Van_build_31 lk_Van_241 vc_Planner_findPut (ct_findPut hI1.1 k1 hI1.2.1 (by omega) hQ1 hP1 hA1) rfl rfl rfl rfl ⟨Nat.le_of_ble_eq_true rfl, Nat.le_of_ble_eq_true rfl⟩ ⟨Nat.zero_le _, Nat.zero_le _⟩ (Nat.le_of_ble_eq_true rfl) (fun r31 s31 q31 => ?_)
      obtain ⟨e, b1, b2, b3, b4⟩ := q31
      have e2 : r31 = 0 ∧ (fp g.D g.ns g.nv R).1 = -1 ∨ r31 = 1 ∧ (fp g.D g.ns g.nv R).1 ≠ -1 := by rw [e]; split <;> omega
      have hI2 := hI1.keep b4 b1
      refine r_if_ne 40 d_Van_build_34 rfl (by omega) (fun h34 => ?_) (fun h34 => ?_)
      · refine r_aload_n 0 d_Van_build_40 rfl rfl ?_
        refine r_getR 1 d_Van_build_41 fk_Van_12 rfl rfl rfl (by decide) ?_
        refine r_cVV 2 d_Van_build_44 lk_Van_245 vc_Planner_doPut (ct_doPut hI2.1 k1 b1 (by omega) b2 hP1 hA1 b3 (GB.fp k1 hP1 hA1) (by omega)) rfl rfl rfl rfl ⟨Nat.le_of_ble_eq_true rfl, Nat.le_of_ble_eq_true rfl⟩ ⟨Nat.zero_le _, Nat.zero_le _⟩ (Nat.le_of_ble_eq_true rfl) (fun s44 q44 => ?_)
        obtain ⟨c1, c2, c3⟩ := q44
        have hne : (fp g.D g.ns g.nv R).1 ≠ -1 := by omega
        have ebl : bld1 g.D g.ns g.nv R = pbs g.D R (fp g.D g.ns g.nv R) := if_neg hne
        have hbo := bld1_ok k1 hP1 hA1
        have hbs := bld_step k1 hP1 hA1
        rw [ebl] at hbo hbs
        refine r_iinc 2 d_Van_build_47 rfl (by decide) rfl ?_
        refine r_goto 21 d_Van_build_50 rfl ?_
        exact ihk _ _ (hI2.keep c3 c1) c2 hbo.1 hbo.2.1 (hbs.trans hb1) (by have := hbo.2.2.2 hne; omega) ((hF1.tr b4.vf).tr c3.vf)
      · refine r_goto 53 d_Van_build_37 rfl ?_
        exact k53 k _ hI2 (by rw [← hb1, bld_none (by omega)]; exact b2) (hF1.tr b4.vf)
  refine ci_of [vR 0, vU, vU] fy_Van_build.1 rfl (Nat.le_of_ble_eq_true rfl) ?_
  refine r_aload_n 0 d_Van_build_0 rfl rfl ?_
  refine r_getR 27 d_Van_build_1 fk_Van_20 rfl rfl rfl (by decide) ?_
  refine r_aload_n 0 d_Van_build_4 rfl rfl ?_
  refine r_getR 39 d_Van_build_5 fk_Van_46 rfl rfl rfl (by decide) ?_
  refine r_cVV 1 d_Van_build_8 lk_Van_210 vc_Plan_become (ct_become pl27 pl39 (by decide) hQ) rfl rfl rfl rfl ⟨Nat.le_of_ble_eq_true rfl, Nat.le_of_ble_eq_true rfl⟩ ⟨Nat.zero_le _, Nat.zero_le _⟩ (Nat.le_of_ble_eq_true rfl) (fun s8 q8 => ?_)
  obtain ⟨a1, a2⟩ := q8
  have hI1 := hI.keep a2.pf (a2.tc pl27 hT)
  refine r_aload_n 0 d_Van_build_11 rfl rfl ?_
  refine r_getR 27 d_Van_build_12 fk_Van_20 rfl rfl rfl (by decide) ?_
  refine r_cVP 1 d_Van_build_15 lk_Van_238 vc_Plan_size (ct_size pl27 a1) rfl rfl rfl rfl ⟨Nat.le_of_ble_eq_true rfl, Nat.le_of_ble_eq_true rfl⟩ ⟨Nat.zero_le _, Nat.zero_le _⟩ (Nat.le_of_ble_eq_true rfl) ?_
  refine r_istore_n 1 d_Van_build_18 rfl (by decide) rfl ?_
  refine r_iconst d_Van_build_19 ?_
  refine r_istore_n 2 d_Van_build_20 rfl (by decide) rfl ?_
  exact L 0 (by omega) (by omega) _ _ hI1 a1 k2 k3 rfl (k2.size hn.1).1 a2.pf.vf
theorem cv_better {σ : sto} {g : G} {B n : Int} (hI : OI σ g B) (hB : B ≤ 3998) (hk : g.ok) (h_n : inR n) : CI M_Van_better 14 [vR 0, vI n] σ (PV (sp_better g n) σ B) := by
  obtain ⟨h1, hT, hQ, hU, h09, hrn, h010, hrf⟩ := id hI
  obtain ⟨k1, k2, k3, k4, k5, k6⟩ := id hk
  have hn := k1.1
  have hRV := k2.rv hn.1 hn.2.1
  have hbo := btN_ok k1 n.toNat k2 k3
  have k58 : ∀ (d : Int) (σ1 : sto), 0 ≤ n → n ≤ 100 → OI σ1 g B → PA σ1 27 (btN g.D g.ns g.nv g.P n.toNat).2 → d = (btN g.D g.ns g.nv g.P n.toNat).1 → VF σ σ1 → Run M_Van_better (rxI 14 (PV (sp_better g n) σ B)) (0, 0) 58 [vR 0, vI n, vI d] [] (sg σ1) := by
    intro d σ1 n0 n1 hI1 hQ1 hd hF1
    refine r_aload_n 0 d_Van_better_58 rfl rfl ?_
    refine r_cVV 7 d_Van_better_59 lk_Van_248 vc_Van_adopt (ct_adopt hI1 hQ1) rfl rfl rfl rfl ⟨Nat.le_of_ble_eq_true rfl, Nat.le_of_ble_eq_true rfl⟩ ⟨Nat.zero_le _, Nat.zero_le _⟩ (Nat.le_of_ble_eq_true rfl) (fun s59 q59 => ?_)
    obtain ⟨a1, a2, a3⟩ := q59
    refine r_iload_n 2 d_Van_better_62 rfl rfl ?_
    refine q_iret d_Van_better_63 rfl ?_
    exact fin_ok a1 (by omega) (adopt_ok hk hbo.1 hbo.2) (hF1.tr a3) (by rw [hd]; unfold sp_better; (repeat (first | rw [if_pos (by omega)] | rw [if_neg (by omega)])); (try rfl))
  have L : 0 ≤ n → n ≤ 100 → ∀ d, 0 ≤ d → d ≤ n → ∀ (σ1 : sto) (R : pln), OI σ1 g B → PA σ1 27 R → PO g.ns g.nv R → AF g.D g.nv R → (btN g.D g.ns g.nv g.P n.toNat).1 = d + (btN g.D g.ns g.nv R (n - d).toNat).1 → (btN g.D g.ns g.nv g.P n.toNat).2 = (btN g.D g.ns g.nv R (n - d).toNat).2 → VF σ σ1 → Run M_Van_better (rxI 14 (PV (sp_better g n) σ B)) (0, 0) 37 [vR 0, vI n, vI d] [] (sg σ1) := by
    intro n0 n1
    refine up_ind (b := n) ?_ ?_
    · intro σ1 R hI1 hQ1 hP1 hA1 hb1 hb2 hF1
      rw [show (n - n).toNat = 0 by omega] at hb1 hb2
      refine r_iload_n 2 d_Van_better_37 rfl rfl ?_
      refine r_iload_n 1 d_Van_better_38 rfl rfl ?_
      refine r_icmp_ge 58 d_Van_better_39 rfl (by omega) (by omega) (fun h39 => ?_) (fun h39 => absurd h39 (by omega))
      exact k58 n σ1 n0 n1 hI1 (by rw [hb2]; exact hQ1) (by rw [hb1]; show n = n + 0; omega) hF1
    · intro d d0 d1 ihd σ1 R hI1 hQ1 hP1 hA1 hb1 hb2 hF1
      rw [show (n - d).toNat = (n - (d + 1)).toNat + 1 by omega] at hb1 hb2
      rw [btN_s] at hb1 hb2
      refine r_iload_n 2 d_Van_better_37 rfl rfl ?_
      refine r_iload_n 1 d_Van_better_38 rfl rfl ?_
      refine r_icmp_ge 58 d_Van_better_39 rfl (by omega) (by omega) (fun h39 => absurd h39 (by omega)) (fun h39 => ?_)
      refine r_aload_n 0 d_Van_better_42 rfl rfl ?_
      refine r_getR 1 d_Van_better_43 fk_Van_12 rfl rfl rfl (by decide) ?_
      refine r_cVI 2 d_Van_better_46 lk_Van_251 vc_Planner_improve (ct_improve hI1.1 k1 hI1.2.1 (by omega) hQ1 hP1 hA1) rfl rfl rfl rfl ⟨Nat.le_of_ble_eq_true rfl, Nat.le_of_ble_eq_true rfl⟩ ⟨Nat.zero_le _, Nat.zero_le _⟩ (Nat.le_of_ble_eq_true rfl) (fun r46 s46 q46 => ?_)
      obtain ⟨b1, b2, b3⟩ := q46
      have hI2 := hI1.keep b2 b1
      refine r_if_eq 58 d_Van_better_49 rfl (by omega) (fun h49 => ?_) (fun h49 => ?_)
      · have b3 := b3.resolve_left (fun q => by omega)
        rw [if_neg b3.1] at hb1 hb2
        exact k58 d _ n0 n1 hI2 (by rw [hb2]; exact b3.2.2) (by rw [hb1]; show d = d + 0; omega) (hF1.tr b2.vf)
      · have b3 := b3.resolve_right (fun q => by omega)
        rw [if_pos b3.1] at hb1 hb2
        have hio := imp_ok k1 hP1 b3.1
        refine r_iinc 2 d_Van_better_52 rfl (by decide) rfl ?_
        refine r_goto 37 d_Van_better_55 rfl ?_
        exact ihd _ _ hI2 b3.2.2 hio.1 hio.2.1 (by rw [hb1]; show d + (_ + 1) = d + 1 + _; omega) hb2 (hF1.tr b2.vf)
  refine ci_of [vR 0, vI n, vU] fy_Van_better.1 rfl (Nat.le_of_ble_eq_true rfl) ?_
  refine r_iload_n 1 d_Van_better_0 rfl rfl ?_
  refine r_if_ge 11 d_Van_better_1 rfl (by omega) (fun h1 => ?_) (fun h1 => ?_)
  · refine r_iload_n 1 d_Van_better_11 rfl rfl ?_
    refine r_bipush d_Van_better_12 (by decide) ?_
    refine r_icmp_le 24 d_Van_better_14 rfl (by omega) (by omega) (fun h14 => ?_) (fun h14 => ?_)
    · refine r_aload_n 0 d_Van_better_24 rfl rfl ?_
      refine r_getR 27 d_Van_better_25 fk_Van_20 rfl rfl rfl (by decide) ?_
      refine r_aload_n 0 d_Van_better_28 rfl rfl ?_
      refine r_getR 39 d_Van_better_29 fk_Van_46 rfl rfl rfl (by decide) ?_
      refine r_cVV 1 d_Van_better_32 lk_Van_210 vc_Plan_become (ct_become pl27 pl39 (by decide) hQ) rfl rfl rfl rfl ⟨Nat.le_of_ble_eq_true rfl, Nat.le_of_ble_eq_true rfl⟩ ⟨Nat.zero_le _, Nat.zero_le _⟩ (Nat.le_of_ble_eq_true rfl) (fun s32 q32 => ?_)
      obtain ⟨a1, a2⟩ := q32
      have hI1 := hI.keep a2.pf (a2.tc pl27 hT)
      refine r_iconst d_Van_better_35 ?_
      refine r_istore_n 2 d_Van_better_36 rfl (by decide) rfl ?_
      exact L (by omega) (by omega) 0 (by omega) (by omega) _ _ hI1 a1 k2 k3 (by rw [Int.sub_zero]; omega) (by rw [Int.sub_zero]) a2.pf.vf
    · refine r_aload_n 0 d_Van_better_17 rfl rfl ?_
      refine r_bipush d_Van_better_18 (by decide) ?_
      refine r_cVI 7 d_Van_better_20 lk_Van_74 vc_Van_refuse (ct_refuse (by omega)) rfl rfl rfl rfl ⟨Nat.le_of_ble_eq_true rfl, Nat.le_of_ble_eq_true rfl⟩ ⟨Nat.zero_le _, Nat.zero_le _⟩ (Nat.le_of_ble_eq_true rfl) (fun r20 s20 q20 => ?_)
      have q := q20
      refine q_iret d_Van_better_23 rfl ?_
      exact fin_no hI (by omega) hk VF.rf q (by unfold sp_better; (repeat (first | rw [if_pos (by omega)] | rw [if_neg (by omega)])); (try rfl))
  · refine r_aload_n 0 d_Van_better_4 rfl rfl ?_
    refine r_bipush d_Van_better_5 (by decide) ?_
    refine r_cVI 7 d_Van_better_7 lk_Van_74 vc_Van_refuse (ct_refuse (by omega)) rfl rfl rfl rfl ⟨Nat.le_of_ble_eq_true rfl, Nat.le_of_ble_eq_true rfl⟩ ⟨Nat.zero_le _, Nat.zero_le _⟩ (Nat.le_of_ble_eq_true rfl) (fun r7 s7 q7 => ?_)
    have q := q7
    refine q_iret d_Van_better_10 rfl ?_
    exact fin_no hI (by omega) hk VF.rf q (by unfold sp_better; (repeat (first | rw [if_pos (by omega)] | rw [if_neg (by omega)])); (try rfl))
theorem cv_least {σ : sto} {g : G} {B : Int} (hI : OI σ g B) (hB : B ≤ 3998) (hk : g.ok)  : CI M_Van_least 14 [vR 0] σ (PV (sp_least g) σ B) := by
  obtain ⟨h1, hT, hQ, hU, h09, hrn, h010, hrf⟩ := id hI
  obtain ⟨k1, k2, k3, k4, k5, k6⟩ := id hk
  have hn := k1.1
  have hRV := k2.rv hn.1 hn.2.1
  refine ci_of [vR 0] fy_Van_least.1 rfl (Nat.le_of_ble_eq_true rfl) ?_
  refine r_aload_n 0 d_Van_least_0 rfl rfl ?_
  refine r_getR 9 d_Van_least_1 fk_Van_37 rfl rfl rfl (by decide) ?_
  refine r_getI 0 d_Van_least_4 fk_Van_134 rfl rfl rfl ?_
  refine r_iconst d_Van_least_7 ?_
  rw [h1.1]
  refine r_icmp_gt 22 d_Van_least_8 rfl (by omega) (by omega) (fun h8 => ?_) (fun h8 => ?_)
  · refine r_aload_n 0 d_Van_least_22 rfl rfl ?_
    refine r_bipush d_Van_least_23 (by decide) ?_
    refine r_cVI 7 d_Van_least_25 lk_Van_74 vc_Van_refuse (ct_refuse (by omega)) rfl rfl rfl rfl ⟨Nat.le_of_ble_eq_true rfl, Nat.le_of_ble_eq_true rfl⟩ ⟨Nat.zero_le _, Nat.zero_le _⟩ (Nat.le_of_ble_eq_true rfl) (fun r25 s25 q25 => ?_)
    have q := q25
    refine q_iret d_Van_least_28 rfl ?_
    exact fin_no hI (by omega) hk VF.rf q (by unfold sp_least; (repeat (first | rw [if_pos (by omega)] | rw [if_neg (by omega)])); (try rfl))
  · refine r_aload_n 0 d_Van_least_11 rfl rfl ?_
    refine r_getR 18 d_Van_least_12 fk_Van_42 rfl rfl rfl (by decide) ?_
    refine r_getI 0 d_Van_least_15 fk_Van_154 rfl rfl rfl ?_
    refine r_iconst d_Van_least_18 ?_
    rw [h1.2.1]
    refine r_icmp_le 29 d_Van_least_19 rfl (by omega) (by omega) (fun h19 => ?_) (fun h19 => ?_)
    · refine r_aload_n 0 d_Van_least_29 rfl rfl ?_
      refine r_getR 1 d_Van_least_30 fk_Van_12 rfl rfl rfl (by decide) ?_
      refine r_cVV 2 d_Van_least_33 lk_Van_254 vc_Planner_seekLeast (ct_seekLeast h1 k1 hT (by omega) (by omega) (by omega)) rfl rfl rfl rfl ⟨Nat.le_of_ble_eq_true rfl, Nat.le_of_ble_eq_true rfl⟩ ⟨Nat.zero_le _, Nat.zero_le _⟩ (Nat.le_of_ble_eq_true rfl) (fun s33 q33 => ?_)
      obtain ⟨a1, a2, L, hL, a3⟩ := q33
      have hI1 := hI.keep a2 a1
      have el := lst_eq k1 hL
      refine r_aload_n 0 d_Van_least_36 rfl rfl ?_
      refine r_cVV 7 d_Van_least_37 lk_Van_248 vc_Van_adopt (ct_adopt hI1 a3) rfl rfl rfl rfl ⟨Nat.le_of_ble_eq_true rfl, Nat.le_of_ble_eq_true rfl⟩ ⟨Nat.zero_le _, Nat.zero_le _⟩ (Nat.le_of_ble_eq_true rfl) (fun s37 q37 => ?_)
      obtain ⟨b1, b2, b3⟩ := q37
      refine r_aload_n 0 d_Van_least_40 rfl rfl ?_
      refine r_getR 27 d_Van_least_41 fk_Van_20 rfl rfl rfl (by decide) ?_
      refine r_cVP 1 d_Van_least_44 lk_Van_238 vc_Plan_size (ct_size pl27 b2) rfl rfl rfl rfl ⟨Nat.le_of_ble_eq_true rfl, Nat.le_of_ble_eq_true rfl⟩ ⟨Nat.zero_le _, Nat.zero_le _⟩ (Nat.le_of_ble_eq_true rfl) ?_
      refine q_iret d_Van_least_47 rfl ?_
      exact fin_ok b1 (by omega) (adopt_ok hk hL.1.1 hL.1.2.1) (a2.vf.tr b3) (by rw [← el]; unfold sp_least; (repeat (first | rw [if_pos (by omega)] | rw [if_neg (by omega)])); (try rfl))
    · refine r_aload_n 0 d_Van_least_22 rfl rfl ?_
      refine r_bipush d_Van_least_23 (by decide) ?_
      refine r_cVI 7 d_Van_least_25 lk_Van_74 vc_Van_refuse (ct_refuse (by omega)) rfl rfl rfl rfl ⟨Nat.le_of_ble_eq_true rfl, Nat.le_of_ble_eq_true rfl⟩ ⟨Nat.zero_le _, Nat.zero_le _⟩ (Nat.le_of_ble_eq_true rfl) (fun r25 s25 q25 => ?_)
      have q := q25
      refine q_iret d_Van_least_28 rfl ?_
      exact fin_no hI (by omega) hk VF.rf q (by unfold sp_least; (repeat (first | rw [if_pos (by omega)] | rw [if_neg (by omega)])); (try rfl))
theorem cv_undo {σ : sto} {g : G} {B : Int} (hI : OI σ g B) (hB : B ≤ 3998) (hk : g.ok)  : CI M_Van_undo 14 [vR 0] σ (PV (sp_undo g) σ B) := by
  obtain ⟨h1, hT, hQ, hU, h09, hrn, h010, hrf⟩ := id hI
  obtain ⟨k1, k2, k3, k4, k5, k6⟩ := id hk
  have hn := k1.1
  have hRV := k2.rv hn.1 hn.2.1
  refine ci_of [vR 0] fy_Van_undo.1 rfl (Nat.le_of_ble_eq_true rfl) ?_
  refine r_aload_n 0 d_Van_undo_0 rfl rfl ?_
  refine r_getR 45 d_Van_undo_1 fk_Van_52 rfl rfl rfl (by decide) ?_
  refine r_getI 2 d_Van_undo_4 fk_Van_257 rfl rfl rfl ?_
  rw [hU.1]
  refine r_if_ne 17 d_Van_undo_7 rfl (by have := k5; unfold lp at *; omega) (fun h7 => ?_) (fun h7 => ?_)
  · obtain ⟨Q, U1, hq⟩ : ∃ Q U1, g.U = Q :: U1 := by
      rcases hq : g.U with _ | ⟨Q, U1⟩
      · exfalso; rw [hq] at h7; exact h7 rfl
      · exact ⟨Q, U1, rfl⟩
    have hU1 := hU
    rw [hq] at hU1
    have kq := k4 Q (by rw [hq]; exact List.mem_cons_self)
    have kl : lp U1 ≤ 20 := by have e : lp (Q :: U1) = lp U1 + 1 := (by unfold lp; rw [List.length_cons]; omega); rw [hq, e] at k5; omega
    have kR := kq.1.rv hn.1 hn.2.1
    refine r_aload_n 0 d_Van_undo_17 rfl rfl ?_
    refine r_getR 45 d_Van_undo_18 fk_Van_52 rfl rfl rfl (by decide) ?_
    refine r_aload_n 0 d_Van_undo_21 rfl rfl ?_
    refine r_getR 39 d_Van_undo_22 fk_Van_46 rfl rfl rfl (by decide) ?_
    refine r_cVV 0 d_Van_undo_25 lk_Van_260 vc_Past_bringBack (ct_bringBack hU1) rfl rfl rfl rfl ⟨Nat.le_of_ble_eq_true rfl, Nat.le_of_ble_eq_true rfl⟩ ⟨Nat.zero_le _, Nat.zero_le _⟩ (Nat.le_of_ble_eq_true rfl) (fun s25 q25 => ?_)
    obtain ⟨a1, a2, a3⟩ := q25
    have hd := h1.keep (σ' := s25) (fun c i q => a3 c i (by omega))
    have ht := hT.keep (σ' := s25) (fun c i q => a3 c i (by omega))
    refine r_aload_n 0 d_Van_undo_28 rfl rfl ?_
    refine r_getR 2 d_Van_undo_29 fk_Van_25 rfl rfl rfl (by decide) ?_
    refine r_aload_n 0 d_Van_undo_32 rfl rfl ?_
    refine r_getR 39 d_Van_undo_33 fk_Van_46 rfl rfl rfl (by decide) ?_
    refine r_cVI 5 d_Van_undo_36 lk_Van_92 vc_Trip_total (ct_total hd k1 ht (by omega) pl39 a1 kR) rfl rfl rfl rfl ⟨Nat.le_of_ble_eq_true rfl, Nat.le_of_ble_eq_true rfl⟩ ⟨Nat.zero_le _, Nat.zero_le _⟩ (Nat.le_of_ble_eq_true rfl) (fun r36 s36 q36 => ?_)
    obtain ⟨e, hT2, hJ⟩ := q36
    have e := (e.resolve_right (fun q => q.1 kq.2)).2
    refine q_iret d_Van_undo_39 rfl ?_
    refine fin_ok (g' := g.plan Q U1) (B1 := B) ?_ (by omega) ⟨k1, kq.1, kq.2, fun R hR => k4 R (by rw [hq]; exact List.mem_cons_of_mem _ hR), kl, k6⟩ (VF.tr (fun c i q => a3 c i (by omega)) hJ.vf) (by unfold sp_undo; rw [if_neg h7, hq, e]; rfl)
    have hf := hJ.pf
    exact ⟨hf.dc hd, hT2, a1.same (fun c i c0 c1 => hf c i (by omega)), a2.keep (fun c i c0 c1 => hf c i (by omega)), by rw [hf 0 9 (by omega), a3 0 9 (by omega)]; exact h09, fun i i0 i1 => by rw [hf 167 i (by omega), a3 167 i (by omega)]; exact hrn i i0 i1, by rw [hf 0 10 (by omega), a3 0 10 (by omega)]; exact h010, fun k k0 k1 => by rw [hf 168 k (by omega), a3 168 k (by omega)]; exact hrf k k0 k1⟩
  · refine r_aload_n 0 d_Van_undo_10 rfl rfl ?_
    refine r_bipush d_Van_undo_11 (by decide) ?_
    refine r_cVI 7 d_Van_undo_13 lk_Van_74 vc_Van_refuse (ct_refuse (by omega)) rfl rfl rfl rfl ⟨Nat.le_of_ble_eq_true rfl, Nat.le_of_ble_eq_true rfl⟩ ⟨Nat.zero_le _, Nat.zero_le _⟩ (Nat.le_of_ble_eq_true rfl) (fun r13 s13 q13 => ?_)
    have q := q13
    refine q_iret d_Van_undo_16 rfl ?_
    exact fin_no hI (by omega) hk VF.rf q (by unfold sp_undo; (repeat (first | rw [if_pos (by omega)] | rw [if_neg (by omega)])); (try rfl))
theorem cv_clear {σ : sto} {g : G} {B : Int} (hI : OI σ g B) (hB : B ≤ 3998) (hk : g.ok)  : CI M_Van_clear 14 [vR 0] σ (PV (sp_clear g) σ B) := by
  obtain ⟨h1, hT, hQ, hU, h09, hrn, h010, hrf⟩ := id hI
  obtain ⟨k1, k2, k3, k4, k5, k6⟩ := id hk
  have hn := k1.1
  have hRV := k2.rv hn.1 hn.2.1
  refine ci_of [vR 0, vU] fy_Van_clear.1 rfl (Nat.le_of_ble_eq_true rfl) ?_
  refine r_aload_n 0 d_Van_clear_0 rfl rfl ?_
  refine r_getR 27 d_Van_clear_1 fk_Van_20 rfl rfl rfl (by decide) ?_
  refine r_cVV 1 d_Van_clear_4 lk_Van_263 vc_Plan_empty (ct_empty pl27) rfl rfl rfl rfl ⟨Nat.le_of_ble_eq_true rfl, Nat.le_of_ble_eq_true rfl⟩ ⟨Nat.zero_le _, Nat.zero_le _⟩ (Nat.le_of_ble_eq_true rfl) (fun s4 q4 => ?_)
  obtain ⟨a1, a2⟩ := q4
  have hI1 := hI.keep a2.pf (a2.tc pl27 hT)
  refine r_aload_n 0 d_Van_clear_7 rfl rfl ?_
  refine r_getR 39 d_Van_clear_8 fk_Van_46 rfl rfl rfl (by decide) ?_
  refine r_cVP 1 d_Van_clear_11 lk_Van_238 vc_Plan_size (ct_size pl39 hI1.2.2.1) rfl rfl rfl rfl ⟨Nat.le_of_ble_eq_true rfl, Nat.le_of_ble_eq_true rfl⟩ ⟨Nat.zero_le _, Nat.zero_le _⟩ (Nat.le_of_ble_eq_true rfl) ?_
  refine r_istore_n 1 d_Van_clear_14 rfl (by decide) rfl ?_
  refine r_aload_n 0 d_Van_clear_15 rfl rfl ?_
  refine r_cVV 7 d_Van_clear_16 lk_Van_248 vc_Van_adopt (ct_adopt hI1 a1) rfl rfl rfl rfl ⟨Nat.le_of_ble_eq_true rfl, Nat.le_of_ble_eq_true rfl⟩ ⟨Nat.zero_le _, Nat.zero_le _⟩ (Nat.le_of_ble_eq_true rfl) (fun s16 q16 => ?_)
  obtain ⟨b1, b2, b3⟩ := q16
  refine r_iload_n 1 d_Van_clear_19 rfl rfl ?_
  refine q_iret d_Van_clear_20 rfl ?_
  exact fin_ok b1 (by omega) (adopt_ok hk (VV.nil (D := g.D)).1 (fun _ _ _ => why_nil)) (a2.pf.vf.tr b3) rfl
