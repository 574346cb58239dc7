-- BUILD: tryPuts, findPut, doPut (walks written by wip/whole/gen_put.py)
theorem GB.lim {D : sto} {ns nv : Int} {P : pln} {b : b5} (h : GB D ns nv P b) (hn : ns ≤ 12) : b.1 = -1 ∨ (0 ≤ b.1 ∧ b.1 < 12) ∧ -60000 ≤ b.2.2.2.2 ∧ b.2.2.2.2 ≤ 60000 := by
  rcases h with h | ⟨h1, -, -, -, h2, -⟩
  · exact Or.inl h
  · exact Or.inr ⟨⟨h1.1, by omega⟩, h2⟩
theorem ct_tryPuts {σ D : sto} {ns nv s v B : Int} {P : pln} {b : b5} (hC : DC σ D ns nv) (hO : DOK D ns nv) (hT : TC σ D B) (hB : B ≤ 4000) (hQ : PA σ 27 P) (hP : PO ns nv P) (hA : AF D nv P) (v0 : 0 ≤ v) (v1 : v < nv) (s0 : 0 ≤ s) (s1 : s < ns) (hs : s ∉ al3 P) (hk : D 0 s ≠ 2) (hb : FB σ b) (hg : GB D ns nv P b) : CV M_Planner_tryPuts 5 [vR 1, vI s, vI v] σ (fun σ' => TC σ' D B ∧ PA σ' 27 P ∧ FB σ' (tp D P s v b) ∧ PF σ σ') := by
  have hn := hO.1
  have hv3 : v < 3 := by omega
  have hl0 := ln0 (P v)
  have hRV := hP.rv hn.1 hn.2.1
  have hl12 := (hRV v v0 hv3).1
  have hc0 := cst_in hO (hRV v v0 hv3) v0 v1 (hA v v0 v1)
  have hd := hO.2.1 s s0 s1
  have L1 : D 6 s = -1 → ∀ i, 0 ≤ i → i ≤ ln (P v) + 1 → ∀ σ1 : sto, TC σ1 D B → PA σ1 27 P → FB σ1 (tp1N D P s v b i.toNat) → PF σ σ1 → Run M_Planner_tryPuts (rxV 5 (fun σ' => TC σ' D B ∧ PA σ' 27 P ∧ FB σ' (tp D P s v b) ∧ PF σ σ')) (0, 0) 46 [vR 1, vI s, vI v, vI (cst D v (P v)), vI (D 6 s), vI (ln (P v)), vI i, vU] [] (sg σ1) := by
    intro hm
    refine up_ind (b := ln (P v) + 1) ?_ ?_
    · intro σ1 hT1 hQ1 hb1 hF1
      refine r_iload 6 d_Planner_tryPuts_46 rfl ?_
      refine r_iload 5 d_Planner_tryPuts_48 rfl ?_
      refine r_icmp_gt 183 d_Planner_tryPuts_50 rfl (by omega) (by omega) (fun h50 => ?_) (fun h50 => absurd h50 (by omega))
      refine q_vret d_Planner_tryPuts_183 rfl ?_
      exact ⟨hT1, hQ1, by unfold tp; rw [if_pos hm]; exact hb1, hF1⟩
    · intro i i0 i1 ih σ1 hT1 hQ1 hb1 hF1
      obtain ⟨o1, o2, o3, o4⟩ := row_ok hO hP v0 v1 i0 (show i ≤ ln (P v) by omega) s0 s1 hs
      have hgi : GB D ns nv P (tp1N D P s v b i.toNat) := by
        have key : ∀ n : Nat, (n : Int) ≤ ln (P v) + 1 → GB D ns nv P (tp1N D P s v b n) := by
          intro n
          induction n with
          | zero => intro _; exact hg
          | succ n ih => intro hn; exact GB.c1 hO hP hA v0 v1 (by omega) (by omega) s0 s1 hs hk hm (ih (by omega))
        exact key _ (by omega)
      have hstep : tp1N D P s v b (i + 1).toNat = w1 D P s v (tp1N D P s v b i.toNat) i := nS (tp1N D P s v b) (w1 D P s v) (fun _ => rfl) i0
      have hrow : RV ns ((up P v (insA (P v) i s)) v) := by rw [up_eq]; exact o3
      have k167 : ∀ σ2 : sto, TC σ2 D B → PA σ2 27 (up P v (insA (P v) i s)) → FB σ2 (tp1N D P s v b (i + 1).toNat) → PF σ σ2 → Run M_Planner_tryPuts (rxV 5 (fun σ' => TC σ' D B ∧ PA σ' 27 P ∧ FB σ' (tp D P s v b) ∧ PF σ σ')) (0, 0) 167 [vR 1, vI s, vI v, vI (cst D v (P v)), vI (D 6 s), vI (ln (P v)), vI i, vU] [] (sg σ2) := by
        intro σ2 hT2 hQ2 hb2 hF2
        refine r_aload_n 0 d_Planner_tryPuts_167 rfl rfl ?_
        refine r_getR 27 d_Planner_tryPuts_168 fk_Planner_31 rfl rfl rfl (by decide) ?_
        refine r_iload_n 2 d_Planner_tryPuts_171 rfl rfl ?_
        refine r_iload 6 d_Planner_tryPuts_172 rfl ?_
        refine r_cVV 1 d_Planner_tryPuts_174 lk_Planner_96 vc_Plan_removeAt (ct_removeAt pl27 hQ2 v0 hv3 i0 (by rw [up_eq, ln_ins]; omega)) rfl rfl rfl rfl ⟨Nat.le_of_ble_eq_true rfl, Nat.le_of_ble_eq_true rfl⟩ ⟨Nat.zero_le _, Nat.zero_le _⟩ (Nat.le_of_ble_eq_true rfl) (fun s174 q174 => ?_)
        obtain ⟨a1, a2⟩ := q174
        rw [up_eq, del_ins i0 (by omega), up_up, up_self] at a1
        refine r_iinc 6 d_Planner_tryPuts_177 rfl (by decide) rfl ?_
        refine r_goto 46 d_Planner_tryPuts_180 rfl ?_
        exact ih _ (a2.tc pl27 hT2) a1 (a2.fb hb2) (hF2.tr a2.pf)
      refine r_iload 6 d_Planner_tryPuts_46 rfl ?_
      refine r_iload 5 d_Planner_tryPuts_48 rfl ?_
      refine r_icmp_gt 183 d_Planner_tryPuts_50 rfl (by omega) (by omega) (fun h50 => absurd h50 (by omega)) (fun h50 => ?_)
      refine r_aload_n 0 d_Planner_tryPuts_53 rfl rfl ?_
      refine r_getR 27 d_Planner_tryPuts_54 fk_Planner_31 rfl rfl rfl (by decide) ?_
      refine r_iload_n 2 d_Planner_tryPuts_57 rfl rfl ?_
      refine r_iload 6 d_Planner_tryPuts_58 rfl ?_
      refine r_iload_n 1 d_Planner_tryPuts_60 rfl rfl ?_
      refine r_cVV 1 d_Planner_tryPuts_61 lk_Planner_72 vc_Plan_insert (ct_insert pl27 hQ1 v0 hv3 i0 (by omega) (by omega) s0 (by omega)) rfl rfl rfl rfl ⟨Nat.le_of_ble_eq_true rfl, Nat.le_of_ble_eq_true rfl⟩ ⟨Nat.zero_le _, Nat.zero_le _⟩ (Nat.le_of_ble_eq_true rfl) (fun s61 q61 => ?_)
      obtain ⟨a1, a2⟩ := q61
      have hT6 := a2.tc pl27 hT1
      have hF6 := hF1.tr a2.pf
      have hb6 := a2.fb hb1
      refine r_iload 4 d_Planner_tryPuts_64 rfl ?_
      refine r_iconst d_Planner_tryPuts_66 ?_
      refine r_icmp_ne 98 d_Planner_tryPuts_67 rfl (by omega) (by omega) (fun h67 => absurd h67 (by omega)) (fun h67 => ?_)
      refine r_aload_n 0 d_Planner_tryPuts_70 rfl rfl ?_
      refine r_getR 2 d_Planner_tryPuts_71 fk_Planner_12 rfl rfl rfl (by decide) ?_
      refine r_aload_n 0 d_Planner_tryPuts_74 rfl rfl ?_
      refine r_getR 27 d_Planner_tryPuts_75 fk_Planner_31 rfl rfl rfl (by decide) ?_
      refine r_iload_n 2 d_Planner_tryPuts_78 rfl rfl ?_
      refine r_cVI 5 d_Planner_tryPuts_79 lk_Planner_82 vc_Trip_judge (ct_judge (hF6.dc hC) hO hT6 hB pl27 a1 v0 v1 hrow) rfl rfl rfl rfl ⟨Nat.le_of_ble_eq_true rfl, Nat.le_of_ble_eq_true rfl⟩ ⟨Nat.zero_le _, Nat.zero_le _⟩ (Nat.le_of_ble_eq_true rfl) (fun r79 s79 q79 => ?_)
      obtain ⟨e7, -, hT7, hJ7, hN7⟩ := q79
      rw [up_eq] at e7 hN7
      have hQ7 := hJ7.pa pl27 a1
      have hF7 := hF6.tr hJ7.pf
      have hb7 := hJ7.fb hb6
      have hwi := whyOf_in D v (insA (P v) i s)
      refine r_if_ne 167 d_Planner_tryPuts_82 rfl (by omega) (fun h82 => ?_) (fun h82 => ?_)
      · first
          | exact k167 _ (hT7.keep (fun c k h => f2 c k (by omega))) (hQ7.same (fun c k c0 c1 => f2 c k (by omega))) (by rw [hstep]; unfold w1; rw [if_pos (by rw [← e7]; exact h82)]; exact f1) (hF7.tr (PF.c1 f2))
          | exact k167 _ hT7 hQ7 (by rw [hstep]; unfold w1; rw [if_neg (by rw [← e7]; exact h82)]; exact hb7) hF7
      · refine r_aload_n 0 d_Planner_tryPuts_85 rfl rfl ?_
        refine r_iload_n 1 d_Planner_tryPuts_86 rfl rfl ?_
        refine r_iload_n 2 d_Planner_tryPuts_87 rfl rfl ?_
        refine r_iload 6 d_Planner_tryPuts_88 rfl ?_
        refine r_iconst d_Planner_tryPuts_90 ?_
        refine r_iload_n 3 d_Planner_tryPuts_91 rfl rfl ?_
        refine r_cVV 2 d_Planner_tryPuts_92 lk_Planner_92 vc_Planner_weighPut (ct_weighPut (hN7 h82).1 (by have := cst_in hO o3 v0 v1 (by rw [← e7]; exact h82); omega) hb7 (hgi.lim hn.2.1)) rfl rfl rfl rfl ⟨Nat.le_of_ble_eq_true rfl, Nat.le_of_ble_eq_true rfl⟩ ⟨Nat.zero_le _, Nat.zero_le _⟩ (Nat.le_of_ble_eq_true rfl) (fun s92 q92 => ?_)
        obtain ⟨f1, f2⟩ := q92
        refine r_goto 167 d_Planner_tryPuts_95 rfl ?_
        first
          | exact k167 _ (hT7.keep (fun c k h => f2 c k (by omega))) (hQ7.same (fun c k c0 c1 => f2 c k (by omega))) (by rw [hstep]; unfold w1; rw [if_pos (by rw [← e7]; exact h82)]; exact f1) (hF7.tr (PF.c1 f2))
          | exact k167 _ hT7 hQ7 (by rw [hstep]; unfold w1; rw [if_neg (by rw [← e7]; exact h82)]; exact hb7) hF7
  have L2 : D 6 s ≠ -1 → ∀ i, 0 ≤ i → i ≤ ln (P v) + 1 → ∀ σ1 : sto, TC σ1 D B → PA σ1 27 P → FB σ1 (tp2N D P s v b i.toNat) → PF σ σ1 → Run M_Planner_tryPuts (rxV 5 (fun σ' => TC σ' D B ∧ PA σ' 27 P ∧ FB σ' (tp D P s v b) ∧ PF σ σ')) (0, 0) 46 [vR 1, vI s, vI v, vI (cst D v (P v)), vI (D 6 s), vI (ln (P v)), vI i, vU] [] (sg σ1) := by
    intro hm
    obtain ⟨p1, p2, p3, p4, p5, p6, p7⟩ := pair_out hO hP hA s0 s1 hs hk hm
    refine up_ind (b := ln (P v) + 1) ?_ ?_
    · intro σ1 hT1 hQ1 hb1 hF1
      refine r_iload 6 d_Planner_tryPuts_46 rfl ?_
      refine r_iload 5 d_Planner_tryPuts_48 rfl ?_
      refine r_icmp_gt 183 d_Planner_tryPuts_50 rfl (by omega) (by omega) (fun h50 => ?_) (fun h50 => absurd h50 (by omega))
      refine q_vret d_Planner_tryPuts_183 rfl ?_
      exact ⟨hT1, hQ1, by unfold tp; rw [if_neg hm]; exact hb1, hF1⟩
    · intro i i0 i1 ih σ1 hT1 hQ1 hb1 hF1
      obtain ⟨o1, o2, o3, o4⟩ := row_ok hO hP v0 v1 i0 (show i ≤ ln (P v) by omega) s0 s1 hs
      have hgi : GB D ns nv P (tp2N D P s v b i.toNat) := by
        have key : ∀ n : Nat, (n : Int) ≤ ln (P v) + 1 → GB D ns nv P (tp2N D P s v b n) := by
          intro n
          induction n with
          | zero => intro _; exact hg
          | succ n ih => intro hn; exact GB.tj hO hP hA v0 v1 (by omega) (by omega) s0 s1 hs hk hm (ih (by omega)) _ (by omega)
        exact key _ (by omega)
      have hstep : tp2N D P s v b (i + 1).toNat = tjN D P s v i (tp2N D P s v b i.toNat) (ln (P v) + 2).toNat := by
        rw [show (i + 1).toNat = i.toNat + 1 by omega]
        show tjN D P s v ((i.toNat : Nat) : Int) _ _ = _
        rw [show ((i.toNat : Nat) : Int) = i by omega]
      have k167 : ∀ σ2 : sto, TC σ2 D B → PA σ2 27 (up P v (insA (P v) i s)) → FB σ2 (tp2N D P s v b (i + 1).toNat) → PF σ σ2 → Run M_Planner_tryPuts (rxV 5 (fun σ' => TC σ' D B ∧ PA σ' 27 P ∧ FB σ' (tp D P s v b) ∧ PF σ σ')) (0, 0) 167 [vR 1, vI s, vI v, vI (cst D v (P v)), vI (D 6 s), vI (ln (P v)), vI i, vU] [] (sg σ2) := by
        intro σ2 hT2 hQ2 hb2 hF2
        refine r_aload_n 0 d_Planner_tryPuts_167 rfl rfl ?_
        refine r_getR 27 d_Planner_tryPuts_168 fk_Planner_31 rfl rfl rfl (by decide) ?_
        refine r_iload_n 2 d_Planner_tryPuts_171 rfl rfl ?_
        refine r_iload 6 d_Planner_tryPuts_172 rfl ?_
        refine r_cVV 1 d_Planner_tryPuts_174 lk_Planner_96 vc_Plan_removeAt (ct_removeAt pl27 hQ2 v0 hv3 i0 (by rw [up_eq, ln_ins]; omega)) rfl rfl rfl rfl ⟨Nat.le_of_ble_eq_true rfl, Nat.le_of_ble_eq_true rfl⟩ ⟨Nat.zero_le _, Nat.zero_le _⟩ (Nat.le_of_ble_eq_true rfl) (fun s174 q174 => ?_)
        obtain ⟨a1, a2⟩ := q174
        rw [up_eq, del_ins i0 (by omega), up_up, up_self] at a1
        refine r_iinc 6 d_Planner_tryPuts_177 rfl (by decide) rfl ?_
        refine r_goto 46 d_Planner_tryPuts_180 rfl ?_
        exact ih _ (a2.tc pl27 hT2) a1 (a2.fb hb2) (hF2.tr a2.pf)
      have LJ : ∀ j, i + 1 ≤ j → j ≤ ln (P v) + 2 → ∀ σ2 : sto, TC σ2 D B → PA σ2 27 (up P v (insA (P v) i s)) → FB σ2 (tjN D P s v i (tp2N D P s v b i.toNat) j.toNat) → PF σ σ2 → Run M_Planner_tryPuts (rxV 5 (fun σ' => TC σ' D B ∧ PA σ' 27 P ∧ FB σ' (tp D P s v b) ∧ PF σ σ')) (0, 0) 104 [vR 1, vI s, vI v, vI (cst D v (P v)), vI (D 6 s), vI (ln (P v)), vI i, vI j] [] (sg σ2) := by
        refine up_ind (b := ln (P v) + 2) ?_ ?_
        · intro σ2 hT2 hQ2 hb2 hF2
          refine r_iload 7 d_Planner_tryPuts_104 rfl ?_
          refine r_iload 5 d_Planner_tryPuts_106 rfl ?_
          refine r_iconst d_Planner_tryPuts_108 ?_
          refine r_iadd d_Planner_tryPuts_109 ?_
          refine r_icmp_gt 167 d_Planner_tryPuts_110 rfl (by omega) (by omega) (fun h110 => ?_) (fun h110 => absurd h110 (by omega))
          exact r_drop 7 (k167 σ2 hT2 hQ2 (by rw [hstep]; exact hb2) hF2)
        · intro j j0 j1 ihj σ2 hT2 hQ2 hb2 hF2
          obtain ⟨t1, t2, t3, t4⟩ := row2_ok hO hP hA v0 v1 i0 (show i ≤ ln (P v) by omega) (show 0 ≤ j by omega) (show j ≤ ln (P v) + 1 by omega) s0 s1 hs hk hm
          have hgj := GB.tj hO hP hA v0 v1 i0 (show i ≤ ln (P v) by omega) s0 s1 hs hk hm hgi j.toNat (by omega)
          have hsj : tjN D P s v i (tp2N D P s v b i.toNat) (j + 1).toNat = w2 D P s v i (tjN D P s v i (tp2N D P s v b i.toNat) j.toNat) j := nS (tjN D P s v i (tp2N D P s v b i.toNat)) (w2 D P s v i) (fun _ => rfl) (by omega)
          have er : insA ((up P v (insA (P v) i s)) v) j (D 6 s) = row2 D P s v i j := by rw [up_eq]; rfl
          have hrow : RV ns ((up P v (row2 D P s v i j)) v) := by rw [up_eq]; exact t3
          have k151 : ∀ σ3 : sto, TC σ3 D B → PA σ3 27 (up P v (row2 D P s v i j)) → FB σ3 (tjN D P s v i (tp2N D P s v b i.toNat) (j + 1).toNat) → PF σ σ3 → Run M_Planner_tryPuts (rxV 5 (fun σ' => TC σ' D B ∧ PA σ' 27 P ∧ FB σ' (tp D P s v b) ∧ PF σ σ')) (0, 0) 151 [vR 1, vI s, vI v, vI (cst D v (P v)), vI (D 6 s), vI (ln (P v)), vI i, vI j] [] (sg σ3) := by
            intro σ3 hT3 hQ3 hb3 hF3
            refine r_aload_n 0 d_Planner_tryPuts_151 rfl rfl ?_
            refine r_getR 27 d_Planner_tryPuts_152 fk_Planner_31 rfl rfl rfl (by decide) ?_
            refine r_iload_n 2 d_Planner_tryPuts_155 rfl rfl ?_
            refine r_iload 7 d_Planner_tryPuts_156 rfl ?_
            refine r_cVV 1 d_Planner_tryPuts_158 lk_Planner_96 vc_Plan_removeAt (ct_removeAt pl27 hQ3 v0 hv3 (by omega) (by rw [up_eq]; unfold row2; rw [ln_ins, ln_ins]; omega)) rfl rfl rfl rfl ⟨Nat.le_of_ble_eq_true rfl, Nat.le_of_ble_eq_true rfl⟩ ⟨Nat.zero_le _, Nat.zero_le _⟩ (Nat.le_of_ble_eq_true rfl) (fun s158 q158 => ?_)
            obtain ⟨a1, a2⟩ := q158
            rw [up_eq, up_up] at a1
            unfold row2 at a1
            rw [del_ins (by omega) (by rw [ln_ins]; omega)] at a1
            refine r_iinc 7 d_Planner_tryPuts_161 rfl (by decide) rfl ?_
            refine r_goto 104 d_Planner_tryPuts_164 rfl ?_
            exact ihj _ (a2.tc pl27 hT3) a1 (a2.fb hb3) (hF3.tr a2.pf)
          refine r_iload 7 d_Planner_tryPuts_104 rfl ?_
          refine r_iload 5 d_Planner_tryPuts_106 rfl ?_
          refine r_iconst d_Planner_tryPuts_108 ?_
          refine r_iadd d_Planner_tryPuts_109 ?_
          refine r_icmp_gt 167 d_Planner_tryPuts_110 rfl (by omega) (by omega) (fun h110 => absurd h110 (by omega)) (fun h110 => ?_)
          refine r_aload_n 0 d_Planner_tryPuts_113 rfl rfl ?_
          refine r_getR 27 d_Planner_tryPuts_114 fk_Planner_31 rfl rfl rfl (by decide) ?_
          refine r_iload_n 2 d_Planner_tryPuts_117 rfl rfl ?_
          refine r_iload 7 d_Planner_tryPuts_118 rfl ?_
          refine r_iload 4 d_Planner_tryPuts_120 rfl ?_
          refine r_cVV 1 d_Planner_tryPuts_122 lk_Planner_72 vc_Plan_insert (ct_insert pl27 hQ2 v0 hv3 (by omega) (by rw [up_eq, ln_ins]; omega) (by rw [up_eq, ln_ins]; omega) p2 (by omega)) rfl rfl rfl rfl ⟨Nat.le_of_ble_eq_true rfl, Nat.le_of_ble_eq_true rfl⟩ ⟨Nat.zero_le _, Nat.zero_le _⟩ (Nat.le_of_ble_eq_true rfl) (fun s122 q122 => ?_)
          obtain ⟨a1, a2⟩ := q122
          rw [er, up_up] at a1
          have hT6 := a2.tc pl27 hT2
          have hF6 := hF2.tr a2.pf
          have hb6 := a2.fb hb2
          refine r_aload_n 0 d_Planner_tryPuts_125 rfl rfl ?_
          refine r_getR 2 d_Planner_tryPuts_126 fk_Planner_12 rfl rfl rfl (by decide) ?_
          refine r_aload_n 0 d_Planner_tryPuts_129 rfl rfl ?_
          refine r_getR 27 d_Planner_tryPuts_130 fk_Planner_31 rfl rfl rfl (by decide) ?_
          refine r_iload_n 2 d_Planner_tryPuts_133 rfl rfl ?_
          refine r_cVI 5 d_Planner_tryPuts_134 lk_Planner_82 vc_Trip_judge (ct_judge (hF6.dc hC) hO hT6 hB pl27 a1 v0 v1 hrow) rfl rfl rfl rfl ⟨Nat.le_of_ble_eq_true rfl, Nat.le_of_ble_eq_true rfl⟩ ⟨Nat.zero_le _, Nat.zero_le _⟩ (Nat.le_of_ble_eq_true rfl) (fun r134 s134 q134 => ?_)
          obtain ⟨e7, -, hT7, hJ7, hN7⟩ := q134
          rw [up_eq] at e7 hN7
          have hQ7 := hJ7.pa pl27 a1
          have hF7 := hF6.tr hJ7.pf
          have hb7 := hJ7.fb hb6
          have hwi := whyOf_in D v (row2 D P s v i j)
          refine r_if_ne 151 d_Planner_tryPuts_137 rfl (by omega) (fun h137 => ?_) (fun h137 => ?_)
          · first
              | exact k151 _ (hT7.keep (fun c k h => f2 c k (by omega))) (hQ7.same (fun c k c0 c1 => f2 c k (by omega))) (by rw [hsj]; unfold w2; rw [if_pos (by rw [← e7]; exact h137)]; exact f1) (hF7.tr (PF.c1 f2))
              | exact k151 _ hT7 hQ7 (by rw [hsj]; unfold w2; rw [if_neg (by rw [← e7]; exact h137)]; exact hb7) hF7
          · refine r_aload_n 0 d_Planner_tryPuts_140 rfl rfl ?_
            refine r_iload_n 1 d_Planner_tryPuts_141 rfl rfl ?_
            refine r_iload_n 2 d_Planner_tryPuts_142 rfl rfl ?_
            refine r_iload 6 d_Planner_tryPuts_143 rfl ?_
            refine r_iload 7 d_Planner_tryPuts_145 rfl ?_
            refine r_iload_n 3 d_Planner_tryPuts_147 rfl rfl ?_
            refine r_cVV 2 d_Planner_tryPuts_148 lk_Planner_92 vc_Planner_weighPut (ct_weighPut (hN7 h137).1 (by have := cst_in hO t3 v0 v1 (by rw [← e7]; exact h137); omega) hb7 (hgj.lim hn.2.1)) rfl rfl rfl rfl ⟨Nat.le_of_ble_eq_true rfl, Nat.le_of_ble_eq_true rfl⟩ ⟨Nat.zero_le _, Nat.zero_le _⟩ (Nat.le_of_ble_eq_true rfl) (fun s148 q148 => ?_)
            obtain ⟨f1, f2⟩ := q148
            first
              | exact k151 _ (hT7.keep (fun c k h => f2 c k (by omega))) (hQ7.same (fun c k c0 c1 => f2 c k (by omega))) (by rw [hsj]; unfold w2; rw [if_pos (by rw [← e7]; exact h137)]; exact f1) (hF7.tr (PF.c1 f2))
              | exact k151 _ hT7 hQ7 (by rw [hsj]; unfold w2; rw [if_neg (by rw [← e7]; exact h137)]; exact hb7) hF7
      refine r_iload 6 d_Planner_tryPuts_46 rfl ?_
      refine r_iload 5 d_Planner_tryPuts_48 rfl ?_
      refine r_icmp_gt 183 d_Planner_tryPuts_50 rfl (by omega) (by omega) (fun h50 => absurd h50 (by omega)) (fun h50 => ?_)
      refine r_aload_n 0 d_Planner_tryPuts_53 rfl rfl ?_
      refine r_getR 27 d_Planner_tryPuts_54 fk_Planner_31 rfl rfl rfl (by decide) ?_
      refine r_iload_n 2 d_Planner_tryPuts_57 rfl rfl ?_
      refine r_iload 6 d_Planner_tryPuts_58 rfl ?_
      refine r_iload_n 1 d_Planner_tryPuts_60 rfl rfl ?_
      refine r_cVV 1 d_Planner_tryPuts_61 lk_Planner_72 vc_Plan_insert (ct_insert pl27 hQ1 v0 hv3 i0 (by omega) (by omega) s0 (by omega)) rfl rfl rfl rfl ⟨Nat.le_of_ble_eq_true rfl, Nat.le_of_ble_eq_true rfl⟩ ⟨Nat.zero_le _, Nat.zero_le _⟩ (Nat.le_of_ble_eq_true rfl) (fun s61 q61 => ?_)
      obtain ⟨a1, a2⟩ := q61
      have hT6 := a2.tc pl27 hT1
      have hF6 := hF1.tr a2.pf
      have hb6 := a2.fb hb1
      refine r_iload 4 d_Planner_tryPuts_64 rfl ?_
      refine r_iconst d_Planner_tryPuts_66 ?_
      refine r_icmp_ne 98 d_Planner_tryPuts_67 rfl (by omega) (by omega) (fun h67 => ?_) (fun h67 => absurd h67 (by omega))
      refine r_iload 6 d_Planner_tryPuts_98 rfl ?_
      refine r_iconst d_Planner_tryPuts_100 ?_
      refine r_iadd d_Planner_tryPuts_101 ?_
      refine r_istore 7 d_Planner_tryPuts_102 (by decide) rfl ?_
      exact LJ (i + 1) (by omega) (by omega) _ hT6 a1 (by rw [tj_skip hO hP hA v0 v1 i0 (by omega) s0 s1 hs hk hm _ _ (by omega)]; exact hb6) hF6
  refine cv_of [vR 1, vI s, vI v, vU, vU, vU, vU, vU] fy_Planner_tryPuts.1 rfl (Nat.le_of_ble_eq_true rfl) ?_
  refine r_aload_n 0 d_Planner_tryPuts_0 rfl rfl ?_
  refine r_getR 2 d_Planner_tryPuts_1 fk_Planner_12 rfl rfl rfl (by decide) ?_
  refine r_aload_n 0 d_Planner_tryPuts_4 rfl rfl ?_
  refine r_getR 27 d_Planner_tryPuts_5 fk_Planner_31 rfl rfl rfl (by decide) ?_
  refine r_iload_n 2 d_Planner_tryPuts_8 rfl rfl ?_
  refine r_cVI 5 d_Planner_tryPuts_9 lk_Planner_82 vc_Trip_judge (ct_judge hC hO hT hB pl27 hQ v0 v1 (hRV v v0 hv3)) rfl rfl rfl rfl ⟨Nat.le_of_ble_eq_true rfl, Nat.le_of_ble_eq_true rfl⟩ ⟨Nat.zero_le _, Nat.zero_le _⟩ (Nat.le_of_ble_eq_true rfl) (fun r9 s9 q9 => ?_)
  obtain ⟨e7, -, hT7, hJ7, hN7⟩ := q9
  have hN := hN7 (by rw [e7]; exact hA v v0 v1)
  have hQ7 := hJ7.pa pl27 hQ
  have hm7 := ((hJ7.dc hC).at s0 (by omega)).2.2.2.2.2.1
  have hz7 : s9 32 v = ln (P v) := (hQ7.len v0 hv3).1
  refine r_pop d_Planner_tryPuts_12 rfl ?_
  refine r_aload_n 0 d_Planner_tryPuts_13 rfl rfl ?_
  refine r_getR 2 d_Planner_tryPuts_14 fk_Planner_12 rfl rfl rfl (by decide) ?_
  refine r_getI 9 d_Planner_tryPuts_17 fk_Planner_86 rfl rfl rfl ?_
  rw [hN.1]
  refine r_istore_n 3 d_Planner_tryPuts_20 rfl (by decide) rfl ?_
  refine r_aload_n 0 d_Planner_tryPuts_21 rfl rfl ?_
  refine r_getR 9 d_Planner_tryPuts_22 fk_Planner_22 rfl rfl rfl (by decide) ?_
  refine r_getR 16 d_Planner_tryPuts_25 fk_Planner_76 rfl rfl rfl (by decide) ?_
  refine r_iload_n 1 d_Planner_tryPuts_28 rfl rfl ?_
  refine r_iald 12 d_Planner_tryPuts_29 rfl rfl (by omega) (by omega) ?_
  rw [hm7]
  refine r_istore 4 d_Planner_tryPuts_30 (by decide) rfl ?_
  refine r_aload_n 0 d_Planner_tryPuts_32 rfl rfl ?_
  refine r_getR 27 d_Planner_tryPuts_33 fk_Planner_31 rfl rfl rfl (by decide) ?_
  refine r_getR 32 d_Planner_tryPuts_36 fk_Planner_89 rfl rfl rfl (by decide) ?_
  refine r_iload_n 2 d_Planner_tryPuts_39 rfl rfl ?_
  refine r_iald 3 d_Planner_tryPuts_40 rfl rfl (by omega) (by omega) ?_
  rw [hz7]
  refine r_istore 5 d_Planner_tryPuts_41 (by decide) rfl ?_
  refine r_iconst d_Planner_tryPuts_43 ?_
  refine r_istore 6 d_Planner_tryPuts_44 (by decide) rfl ?_
  by_cases hm : D 6 s = -1
  · exact L1 hm 0 (by omega) (by omega) _ hT7 hQ7 (hJ7.fb hb) hJ7.pf
  · exact L2 hm 0 (by omega) (by omega) _ hT7 hQ7 (hJ7.fb hb) hJ7.pf
theorem ct_findPut {σ D : sto} {ns nv B : Int} {P : pln} (hC : DC σ D ns nv) (hO : DOK D ns nv) (hT : TC σ D B) (hB : B ≤ 4000) (hQ : PA σ 27 P) (hP : PO ns nv P) (hA : AF D nv P) : CI M_Planner_findPut 6 [vR 1] σ (fun r σ' => r = (if (fp D ns nv P).1 = -1 then 0 else 1) ∧ TC σ' D B ∧ PA σ' 27 P ∧ FB σ' (fp D ns nv P) ∧ PF σ σ') := by
  have hn := hO.1
  have hgf := (GB.fp hO hP hA).lim hn.2.1
  have key : ∀ s, 0 ≤ s → s ≤ ns → ∀ σ1 : sto, TC σ1 D B → PA σ1 27 P → FB σ1 (fpN D nv P (-1, 0, 0, 0, 0) s.toNat) → PF σ σ1 → Run M_Planner_findPut (rxI 6 (fun r σ' => r = (if (fp D ns nv P).1 = -1 then 0 else 1) ∧ TC σ' D B ∧ PA σ' 27 P ∧ FB σ' (fp D ns nv P) ∧ PF σ σ')) (0, 0) 7 [vR 1, vI s, vU] [] (sg σ1) := by
    refine up_ind (b := ns) ?_ ?_
    · intro σ1 hT1 hQ1 hb1 hF1
      have h9 := (hF1.dc hC).1
      have hb2 : FB σ1 (fp D ns nv P) := hb1
      have hb3 := hb2.1
      refine r_iload_n 1 d_Planner_findPut_7 rfl rfl ?_
      refine r_aload_n 0 d_Planner_findPut_8 rfl rfl ?_
      refine r_getR 9 d_Planner_findPut_9 fk_Planner_22 rfl rfl rfl (by decide) ?_
      refine r_getI 0 d_Planner_findPut_12 fk_Planner_42 rfl rfl rfl ?_
      rw [h9]
      refine r_icmp_ge 77 d_Planner_findPut_15 rfl (by omega) (by omega) (fun h15 => ?_) (fun h15 => absurd h15 (by omega))
      refine r_aload_n 0 d_Planner_findPut_77 rfl rfl ?_
      refine r_getI 4 d_Planner_findPut_78 fk_Planner_38 rfl rfl rfl ?_
      rw [hb3]
      refine r_iconst d_Planner_findPut_81 ?_
      refine r_icmp_eq 89 d_Planner_findPut_82 rfl (by omega) (by omega) (fun h82 => ?_) (fun h82 => ?_)
      · refine r_iconst d_Planner_findPut_89 ?_
        refine q_zret d_Planner_findPut_90 rfl (by omega) ?_
        first
          | exact ⟨by rw [if_pos h82], hT1, hQ1, hb1, hF1⟩
          | exact ⟨by rw [if_neg h82], hT1, hQ1, hb1, hF1⟩
      · refine r_iconst d_Planner_findPut_85 ?_
        refine r_goto 90 d_Planner_findPut_86 rfl ?_
        refine q_zret d_Planner_findPut_90 rfl (by omega) ?_
        first
          | exact ⟨by rw [if_pos h82], hT1, hQ1, hb1, hF1⟩
          | exact ⟨by rw [if_neg h82], hT1, hQ1, hb1, hF1⟩
    · intro s s0 s1 ih σ1 hT1 hQ1 hb1 hF1
      have hC1 := hF1.dc hC
      have h9 := hC1.1
      have hat := hC1.at s0 (by omega)
      have hd := hO.2.1 s s0 s1
      have hstep : fpN D nv P (-1, 0, 0, 0, 0) (s + 1).toNat = fs D nv P (fpN D nv P (-1, 0, 0, 0, 0) s.toNat) s := nS (fpN D nv P (-1, 0, 0, 0, 0)) (fs D nv P) (fun _ => rfl) s0
      have hgs : GB D ns nv P (fpN D nv P (-1, 0, 0, 0, 0) s.toNat) := GB.fpN hO hP hA (Or.inl rfl) _ (by omega)
      have k71 : ∀ σ2 : sto, TC σ2 D B → PA σ2 27 P → FB σ2 (fpN D nv P (-1, 0, 0, 0, 0) (s + 1).toNat) → PF σ σ2 → Run M_Planner_findPut (rxI 6 (fun r σ' => r = (if (fp D ns nv P).1 = -1 then 0 else 1) ∧ TC σ' D B ∧ PA σ' 27 P ∧ FB σ' (fp D ns nv P) ∧ PF σ σ')) (0, 0) 71 [vR 1, vI s, vU] [] (sg σ2) := by
        intro σ2 hT2 hQ2 hb2 hF2
        refine r_iinc 1 d_Planner_findPut_71 rfl (by decide) rfl ?_
        refine r_goto 7 d_Planner_findPut_74 rfl ?_
        exact ih σ2 hT2 hQ2 hb2 hF2
      have kv : D 0 s ≠ 2 → s ∉ al3 P → ∀ v, 0 ≤ v → v ≤ nv → ∀ σ2 : sto, TC σ2 D B → PA σ2 27 P → FB σ2 (fvN D P s (fpN D nv P (-1, 0, 0, 0, 0) s.toNat) v.toNat) → PF σ σ2 → Run M_Planner_findPut (rxI 6 (fun r σ' => r = (if (fp D ns nv P).1 = -1 then 0 else 1) ∧ TC σ' D B ∧ PA σ' 27 P ∧ FB σ' (fp D ns nv P) ∧ PF σ σ')) (0, 0) 48 [vR 1, vI s, vI v] [] (sg σ2) := by
        intro hk hs
        refine up_ind (b := nv) ?_ ?_
        · intro σ2 hT2 hQ2 hb2 hF2
          have h18 := (hF2.dc hC).2.1
          refine r_iload_n 2 d_Planner_findPut_48 rfl rfl ?_
          refine r_aload_n 0 d_Planner_findPut_49 rfl rfl ?_
          refine r_getR 18 d_Planner_findPut_50 fk_Planner_27 rfl rfl rfl (by decide) ?_
          refine r_getI 0 d_Planner_findPut_53 fk_Planner_55 rfl rfl rfl ?_
          rw [h18]
          refine r_icmp_ge 71 d_Planner_findPut_56 rfl (by omega) (by omega) (fun h56 => ?_) (fun h56 => absurd h56 (by omega))
          exact r_drop 2 (k71 σ2 hT2 hQ2 (by rw [hstep]; unfold fs; rw [if_neg (fun q => q.elim hk hs)]; exact hb2) hF2)
        · intro v v0 v1 ihv σ2 hT2 hQ2 hb2 hF2
          have h18 := (hF2.dc hC).2.1
          have hgv := GB.fv hO hP hA s0 s1 hs hk hgs v.toNat (by omega)
          have hsv : fvN D P s (fpN D nv P (-1, 0, 0, 0, 0) s.toNat) (v + 1).toNat = tp D P s v (fvN D P s (fpN D nv P (-1, 0, 0, 0, 0) s.toNat) v.toNat) := nS (fvN D P s (fpN D nv P (-1, 0, 0, 0, 0) s.toNat)) (fun b v => tp D P s v b) (fun _ => rfl) v0
          rw [hsv] at ihv
          refine r_iload_n 2 d_Planner_findPut_48 rfl rfl ?_
          refine r_aload_n 0 d_Planner_findPut_49 rfl rfl ?_
          refine r_getR 18 d_Planner_findPut_50 fk_Planner_27 rfl rfl rfl (by decide) ?_
          refine r_getI 0 d_Planner_findPut_53 fk_Planner_55 rfl rfl rfl ?_
          rw [h18]
          refine r_icmp_ge 71 d_Planner_findPut_56 rfl (by omega) (by omega) (fun h56 => absurd h56 (by omega)) (fun h56 => ?_)
          refine r_aload_n 0 d_Planner_findPut_59 rfl rfl ?_
          refine r_iload_n 1 d_Planner_findPut_60 rfl rfl ?_
          refine r_iload_n 2 d_Planner_findPut_61 rfl rfl ?_
          refine r_cVV 2 d_Planner_findPut_62 lk_Planner_58 vc_Planner_tryPuts (ct_tryPuts (hF2.dc hC) hO hT2 hB hQ2 hP hA v0 v1 s0 s1 hs hk hb2 hgv) rfl rfl rfl rfl ⟨Nat.le_of_ble_eq_true rfl, Nat.le_of_ble_eq_true rfl⟩ ⟨Nat.zero_le _, Nat.zero_le _⟩ (Nat.le_of_ble_eq_true rfl) (fun s62 q62 => ?_)
          obtain ⟨a1, a2, a3, a4⟩ := q62
          refine r_iinc 2 d_Planner_findPut_65 rfl (by decide) rfl ?_
          refine r_goto 48 d_Planner_findPut_68 rfl ?_
          exact ihv _ a1 a2 a3 (hF2.tr a4)
      refine r_iload_n 1 d_Planner_findPut_7 rfl rfl ?_
      refine r_aload_n 0 d_Planner_findPut_8 rfl rfl ?_
      refine r_getR 9 d_Planner_findPut_9 fk_Planner_22 rfl rfl rfl (by decide) ?_
      refine r_getI 0 d_Planner_findPut_12 fk_Planner_42 rfl rfl rfl ?_
      rw [h9]
      refine r_icmp_ge 77 d_Planner_findPut_15 rfl (by omega) (by omega) (fun h15 => absurd h15 (by omega)) (fun h15 => ?_)
      refine r_aload_n 0 d_Planner_findPut_18 rfl rfl ?_
      refine r_getR 9 d_Planner_findPut_19 fk_Planner_22 rfl rfl rfl (by decide) ?_
      refine r_getR 10 d_Planner_findPut_22 fk_Planner_47 rfl rfl rfl (by decide) ?_
      refine r_iload_n 1 d_Planner_findPut_25 rfl rfl ?_
      refine r_iald 12 d_Planner_findPut_26 rfl rfl (by omega) (by omega) ?_
      rw [hat.1]
      refine r_iconst d_Planner_findPut_27 ?_
      refine r_icmp_eq 71 d_Planner_findPut_28 rfl (by omega) (by omega) (fun h28 => ?_) (fun h28 => ?_)
      · first
          | exact k71 σ1 hT1 hQ1 (by rw [hstep]; unfold fs; rw [if_pos (Or.inl h28)]; exact hb1) hF1
          | exact k71 σ1 hT1 hQ1 (by rw [hstep]; unfold fs; rw [if_pos (Or.inr (Classical.byContradiction (fun q => h40 (vanOf_no.mpr q))))]; exact hb1) hF1
      · refine r_aload_n 0 d_Planner_findPut_31 rfl rfl ?_
        refine r_getR 27 d_Planner_findPut_32 fk_Planner_31 rfl rfl rfl (by decide) ?_
        refine r_iload_n 1 d_Planner_findPut_35 rfl rfl ?_
        refine r_cVP 1 d_Planner_findPut_36 lk_Planner_51 vc_Plan_vanWith (ct_vanWith pl27 hQ1 (by omega)) rfl rfl rfl rfl ⟨Nat.le_of_ble_eq_true rfl, Nat.le_of_ble_eq_true rfl⟩ ⟨Nat.zero_le _, Nat.zero_le _⟩ (Nat.le_of_ble_eq_true rfl) ?_
        have hvr : -1 ≤ vanOf P s ∧ vanOf P s < 3 := by rcases vanOf_cases P s with ⟨v, a, b, -, -, c, -⟩ | ⟨-, c, -⟩ <;> omega
        refine r_iconst d_Planner_findPut_39 ?_
        refine r_icmp_eq 46 d_Planner_findPut_40 rfl (by omega) (by omega) (fun h40 => ?_) (fun h40 => ?_)
        · refine r_iconst d_Planner_findPut_46 ?_
          refine r_istore_n 2 d_Planner_findPut_47 rfl (by decide) rfl ?_
          exact kv h28 (vanOf_no.mp h40) 0 (by omega) (by omega) σ1 hT1 hQ1 hb1 hF1
        · refine r_goto 71 d_Planner_findPut_43 rfl ?_
          first
            | exact k71 σ1 hT1 hQ1 (by rw [hstep]; unfold fs; rw [if_pos (Or.inl h28)]; exact hb1) hF1
            | exact k71 σ1 hT1 hQ1 (by rw [hstep]; unfold fs; rw [if_pos (Or.inr (Classical.byContradiction (fun q => h40 (vanOf_no.mpr q))))]; exact hb1) hF1
  refine ci_of [vR 1, vU, vU] fy_Planner_findPut.1 rfl (Nat.le_of_ble_eq_true rfl) ?_
  refine r_aload_n 0 d_Planner_findPut_0 rfl rfl ?_
  refine r_iconst d_Planner_findPut_1 ?_
  refine r_putI 4 d_Planner_findPut_2 fk_Planner_38 rfl rfl rfl (Or.inl rfl) ?_
  refine r_iconst d_Planner_findPut_5 ?_
  refine r_istore_n 1 d_Planner_findPut_6 rfl (by decide) rfl ?_
  exact key 0 (by omega) (by omega) _ (hT.keep (fun c k h => by rw [wr_ne (by omega)])) (hQ.same (fun c k c0 c1 => by rw [wr_ne (by omega)])) ⟨wr_eq, fun h => absurd rfl h⟩ (PF.c1 (fun c k h => wr_c h))
/-- the plan behind a put -/
def pbs (D : sto) (P : pln) (b : b5) : pln := up P b.2.1 (if D 6 b.1 = -1 then insA (P b.2.1) b.2.2.1 b.1 else row2 D P b.1 b.2.1 b.2.2.1 b.2.2.2.1)
theorem ct_doPut {σ D : sto} {ns nv B : Int} {P : pln} (hC : DC σ D ns nv) (hO : DOK D ns nv) (hT : TC σ D B) (hB : B ≤ 4000) (hQ : PA σ 27 P) (hP : PO ns nv P) (hA : AF D nv P) {b : b5} (hb : FB σ b) (hg : GB D ns nv P b) (hne : b.1 ≠ -1) : CV M_Planner_doPut 2 [vR 1] σ (fun σ' => TC σ' D B ∧ PA σ' 27 (pbs D P b) ∧ PF σ σ') := by
  have hn := hO.1
  obtain ⟨g1, g2, g3, g4, g5, g6⟩ := hg.resolve_left hne
  obtain ⟨b1, b2⟩ := id hb
  obtain ⟨b3, b4, b5, b6⟩ := b2 hne
  obtain ⟨o1, o2, o3, o4⟩ := row_ok hO hP g3.1 g3.2 g4.1 g4.2 g1.1 g1.2 g2.2
  have h9 := hC.1
  have hd := hO.2.1 b.1 g1.1 g1.2
  refine cv_of [vR 1, vU] fy_Planner_doPut.1 rfl (Nat.le_of_ble_eq_true rfl) ?_
  refine r_aload_n 0 d_Planner_doPut_0 rfl rfl ?_
  refine r_getR 9 d_Planner_doPut_1 fk_Planner_22 rfl rfl rfl (by decide) ?_
  refine r_aload_n 0 d_Planner_doPut_4 rfl rfl ?_
  refine r_getI 4 d_Planner_doPut_5 fk_Planner_38 rfl rfl rfl ?_
  rw [b1]
  refine r_cVP 3 d_Planner_doPut_8 lk_Planner_62 vc_Stops_has (ct_shas (by omega) (by omega) (by omega)) rfl rfl rfl rfl ⟨Nat.le_of_ble_eq_true rfl, Nat.le_of_ble_eq_true rfl⟩ ⟨Nat.zero_le _, Nat.zero_le _⟩ (Nat.le_of_ble_eq_true rfl) ?_
  rw [h9]
  refine r_if_ne 15 d_Planner_doPut_11 rfl (by split <;> omega) (fun h11 => ?_) (fun h11 => absurd h11 (by rw [if_pos (by omega)]; omega))
  refine r_aload_n 0 d_Planner_doPut_15 rfl rfl ?_
  refine r_getR 27 d_Planner_doPut_16 fk_Planner_31 rfl rfl rfl (by decide) ?_
  refine r_aload_n 0 d_Planner_doPut_19 rfl rfl ?_
  refine r_getI 5 d_Planner_doPut_20 fk_Planner_66 rfl rfl rfl ?_
  rw [b3]
  refine r_aload_n 0 d_Planner_doPut_23 rfl rfl ?_
  refine r_getI 6 d_Planner_doPut_24 fk_Planner_69 rfl rfl rfl ?_
  rw [b4]
  refine r_aload_n 0 d_Planner_doPut_27 rfl rfl ?_
  refine r_getI 4 d_Planner_doPut_28 fk_Planner_38 rfl rfl rfl ?_
  rw [b1]
  refine r_cVV 1 d_Planner_doPut_31 lk_Planner_72 vc_Plan_insert (ct_insert pl27 hQ g3.1 (by omega) g4.1 g4.2 o4 g1.1 (by omega)) rfl rfl rfl rfl ⟨Nat.le_of_ble_eq_true rfl, Nat.le_of_ble_eq_true rfl⟩ ⟨Nat.zero_le _, Nat.zero_le _⟩ (Nat.le_of_ble_eq_true rfl) (fun s31 q31 => ?_)
  obtain ⟨a1, a2⟩ := q31
  obtain ⟨c1, c2⟩ := a2.fb hb
  obtain ⟨c3, c4, c5, c6⟩ := c2 hne
  have hm4 := ((a2.pf.dc hC).at g1.1 (by omega)).2.2.2.2.2.1
  have hT3 := a2.tc pl27 hT
  refine r_aload_n 0 d_Planner_doPut_34 rfl rfl ?_
  refine r_getR 9 d_Planner_doPut_35 fk_Planner_22 rfl rfl rfl (by decide) ?_
  refine r_getR 16 d_Planner_doPut_38 fk_Planner_76 rfl rfl rfl (by decide) ?_
  refine r_aload_n 0 d_Planner_doPut_41 rfl rfl ?_
  refine r_getI 4 d_Planner_doPut_42 fk_Planner_38 rfl rfl rfl ?_
  rw [c1]
  refine r_iald 12 d_Planner_doPut_45 rfl rfl (by omega) (by omega) ?_
  rw [hm4]
  refine r_istore_n 1 d_Planner_doPut_46 rfl (by decide) rfl ?_
  refine r_iload_n 1 d_Planner_doPut_47 rfl rfl ?_
  refine r_iconst d_Planner_doPut_48 ?_
  refine r_icmp_eq 68 d_Planner_doPut_49 rfl (by omega) (by omega) (fun h49 => ?_) (fun h49 => ?_)
  · refine q_vret d_Planner_doPut_68 rfl ?_
    first
      | exact ⟨hT3, by unfold pbs; rw [if_pos h49]; exact a1, a2.pf⟩
      | (refine ⟨d2.tc pl27 hT3, ?_, a2.pf.tr d2.pf⟩
         unfold pbs
         rw [if_neg h49]
         rw [up_eq, up_up] at d1
         exact d1)
  · have g6 := g6.resolve_left (fun q => h49 q.1)
    have r2 := row2_ok hO hP hA g3.1 g3.2 g4.1 g4.2 g6.2.1 g6.2.2.1 g1.1 g1.2 g2.2 g2.1 h49
    refine r_aload_n 0 d_Planner_doPut_52 rfl rfl ?_
    refine r_getR 27 d_Planner_doPut_53 fk_Planner_31 rfl rfl rfl (by decide) ?_
    refine r_aload_n 0 d_Planner_doPut_56 rfl rfl ?_
    refine r_getI 5 d_Planner_doPut_57 fk_Planner_66 rfl rfl rfl ?_
    rw [c3]
    refine r_aload_n 0 d_Planner_doPut_60 rfl rfl ?_
    refine r_getI 7 d_Planner_doPut_61 fk_Planner_79 rfl rfl rfl ?_
    rw [c5]
    refine r_iload_n 1 d_Planner_doPut_64 rfl rfl ?_
    refine r_cVV 1 d_Planner_doPut_65 lk_Planner_72 vc_Plan_insert (ct_insert pl27 a1 g3.1 (by omega) g6.2.1 (by rw [up_eq, ln_ins]; omega) (by rw [up_eq, ln_ins]; exact r2.2.2.2) (by omega) (by omega)) rfl rfl rfl rfl ⟨Nat.le_of_ble_eq_true rfl, Nat.le_of_ble_eq_true rfl⟩ ⟨Nat.zero_le _, Nat.zero_le _⟩ (Nat.le_of_ble_eq_true rfl) (fun s65 q65 => ?_)
    obtain ⟨d1, d2⟩ := q65
    refine q_vret d_Planner_doPut_68 rfl ?_
    first
      | exact ⟨hT3, by unfold pbs; rw [if_pos h49]; exact a1, a2.pf⟩
      | (refine ⟨d2.tc pl27 hT3, ?_, a2.pf.tr d2.pf⟩
         unfold pbs
         rw [if_neg h49]
         rw [up_eq, up_up] at d1
         exact d1)
