-- THE REFERENCE: its calls, those that leave all (walks written by wip/whole/gen_rp1.py)
theorem RI.keep {σ σ' : sto} {g : G} (h : RI σ g) (hF : ∀ c i : Int, (c = 169 ∧ (i = 13 ∨ i = 14 ∨ i = 20 ∨ i = 33 ∨ i = 45) ∨ 170 ≤ c ∧ c ≤ 185 ∨ c = 188 ∨ c = 196) → σ' c i = σ c i) : RI σ' g := ⟨h.1.keep (fun c i q => hF c i (by omega)), h.2.keep (fun c i q => hF c i (by omega))⟩
theorem RF.ri {σ σ' : sto} {g : G} (h : RF σ σ') (hI : RI σ g) : RI σ' g := ⟨h.ra hI.1, h.re hI.2⟩
theorem RI.adopt {σ σ' : sto} {g : G} {Q : pln} (hQ : RA σ Q) (hE : RE σ g) (n1 : RU σ' (ifp (plk Q g.P) g.U (psh g.P g.U))) (n2 : ∀ c i : Int, c ≠ 185 → (c ≠ 169 ∨ i ≠ 20) → σ' c i = σ c i) : RI σ' (adopt g Q) := by
  have hQ2 : RA σ' Q := hQ.keep (fun c i q => n2 c i (by omega) (by omega))
  have hE2 : RE σ' (g.plan Q (ifp (plk Q g.P) g.U (psh g.P g.U))) := ⟨hE.1.keep (fun c i q => n2 c i (by omega) (by omega)), n1, by rw [n2 169 45 (by omega) (by omega)]; exact hE.2.2.1, fun i i0 i1 => by rw [n2 196 i (by omega) (by omega)]; exact hE.2.2.2.1 i i0 i1, by rw [n2 169 33 (by omega) (by omega)]; exact hE.2.2.2.2.1, fun k k0 k1 => by rw [n2 188 k (by omega) (by omega)]; exact hE.2.2.2.2.2 k k0 k1⟩
  unfold Jvm.Pilot.CVanRoundsLaw_law_r5163_1a4499.adopt
  by_cases hpl : plk Q g.P
  · rw [ifp_t hpl] at hE2 ⊢
    exact ⟨hQ2.plk hpl, hE2⟩
  · rw [ifp_f hpl] at hE2 ⊢
    exact ⟨hQ2, hE2⟩
theorem rmv_ins {P : pln} {v i s : Int} (v0 : 0 ≤ v) (v1 : v < 3) (i0 : 0 ≤ i) (i1 : i ≤ ln (P v)) (hs : s ∉ al3 P) : vanOf (up P v (insA (P v) i s)) s = v ∧ plcOf (up P v (insA (P v) i s)) s = i ∧ rmv1 (up P v (insA (P v) i s)) s = P := by
  have hnot : ∀ u, 0 ≤ u → u < 3 → s ∉ P u := fun u u0 u1 q => hs (mem_al3.mpr ⟨u, u0, u1, q⟩)
  obtain ⟨e1, e2⟩ := vanOf_at (P := up P v (insA (P v) i s)) (s := s) v0 v1 (by rw [up_eq]; exact (mem_ins i0 i1).mpr (Or.inl rfl)) (fun u u0 u1 => by rw [up_ne (by omega)]; exact hnot u u0 (by omega))
  have e3 : idx (insA (P v) i s) s = i := idx_at i0 (by rw [ln_ins]; omega) (by rw [gt_ins i0 (by omega), if_neg (by omega), if_pos rfl]) (fun j j0 j1 => by
    rw [gt_ins j0 (by omega), if_pos j1]
    intro q
    exact hnot v v0 v1 (by rw [← q]; exact gt_mem j0 (by omega)))
  rw [up_eq, e3] at e2
  refine ⟨e1, e2, ?_⟩
  rw [rmv1_eq e1 (by omega), e2, up_eq, del_ins i0 i1, up_up, up_self]
theorem cr_way {σ : sto} {g : G} {a b t : Int} (hI : RI σ g) (hk : g.ok) (h_a : inR a) (h_b : inR b) (h_t : inR t) : CI M_Mod_way 14 [vR 169, vI a, vI b, vI t] σ (QM (sp_way g a b t) σ) := by
  obtain ⟨hQ, hE⟩ := id hI
  obtain ⟨hC, hU, h45, hrow, h33, hrf⟩ := id hE
  obtain ⟨k1, k2, k3, k4, k5, k6⟩ := id hk
  have hn := k1.1
  have hRV := k2.rv hn.1 hn.2.1
  refine ci_of [vR 169, vI a, vI b, vI t, vU] fy_Mod_way.1 rfl (Nat.le_of_ble_eq_true rfl) ?_
  refine r_iload_n 1 d_Mod_way_0 rfl rfl ?_
  refine r_cSI d_Mod_way_1 lk_Mod_116 sc_Mod_isPlace (mt_isPlace (by omega)) rfl rfl ⟨Nat.le_of_ble_eq_true rfl, Nat.le_of_ble_eq_true rfl⟩ ⟨Nat.zero_le _, Nat.zero_le _⟩ (Nat.le_of_ble_eq_true rfl) (fun r1 s1 q1 => ?_)
  obtain ⟨q1, hs1⟩ := q1
  have hs1 := hs1.symm
  subst hs1
  refine r_if_eq 26 d_Mod_way_4 rfl (by omega) (fun h4 => ?_) (fun h4 => ?_)
  · refine r_aload_n 0 d_Mod_way_26 rfl rfl ?_
    refine r_bipush d_Mod_way_27 (by decide) ?_
    refine r_cVI 8 d_Mod_way_29 lk_Mod_126 vc_Mod_no (mt_no (by omega)) rfl rfl rfl rfl ⟨Nat.le_of_ble_eq_true rfl, Nat.le_of_ble_eq_true rfl⟩ ⟨Nat.zero_le _, Nat.zero_le _⟩ (Nat.le_of_ble_eq_true rfl) (fun r29 s29 q29 => ?_)
    have q := q29
    refine q_iret d_Mod_way_32 rfl ?_
    exact qn_no hI MF.rf q (by unfold sp_way; (repeat (first | rw [if_pos (by omega)] | rw [if_neg (by omega)])); (try rfl))
  · refine r_iload_n 2 d_Mod_way_7 rfl rfl ?_
    refine r_cSI d_Mod_way_8 lk_Mod_116 sc_Mod_isPlace (mt_isPlace (by omega)) rfl rfl ⟨Nat.le_of_ble_eq_true rfl, Nat.le_of_ble_eq_true rfl⟩ ⟨Nat.zero_le _, Nat.zero_le _⟩ (Nat.le_of_ble_eq_true rfl) (fun r8 s8 q8 => ?_)
    obtain ⟨q8, hs8⟩ := q8
    have hs8 := hs8.symm
    subst hs8
    refine r_if_eq 26 d_Mod_way_11 rfl (by omega) (fun h11 => ?_) (fun h11 => ?_)
    · refine r_aload_n 0 d_Mod_way_26 rfl rfl ?_
      refine r_bipush d_Mod_way_27 (by decide) ?_
      refine r_cVI 8 d_Mod_way_29 lk_Mod_126 vc_Mod_no (mt_no (by omega)) rfl rfl rfl rfl ⟨Nat.le_of_ble_eq_true rfl, Nat.le_of_ble_eq_true rfl⟩ ⟨Nat.zero_le _, Nat.zero_le _⟩ (Nat.le_of_ble_eq_true rfl) (fun r29 s29 q29 => ?_)
      have q := q29
      refine q_iret d_Mod_way_32 rfl ?_
      exact qn_no hI MF.rf q (by unfold sp_way; (repeat (first | rw [if_pos (by omega)] | rw [if_neg (by omega)])); (try rfl))
    · refine r_iload_n 3 d_Mod_way_14 rfl rfl ?_
      refine r_i2l d_Mod_way_15 (by omega) ?_
      refine r_lconst (z := 0) d_Mod_way_16 (by decide) ?_
      refine r_ldc2 kc_Mod_120 d_Mod_way_17 ?_
      refine r_cSI d_Mod_way_20 lk_Mod_122 sc_Mod_isIn (mt_isIn (by omega) (by omega) (by omega)) rfl rfl ⟨Nat.le_of_ble_eq_true rfl, Nat.le_of_ble_eq_true rfl⟩ ⟨Nat.zero_le _, Nat.zero_le _⟩ (Nat.le_of_ble_eq_true rfl) (fun r20 s20 q20 => ?_)
      obtain ⟨q20, hs20⟩ := q20
      have hs20 := hs20.symm
      subst hs20
      refine r_if_ne 33 d_Mod_way_23 rfl (by omega) (fun h23 => ?_) (fun h23 => ?_)
      · refine r_aload_n 0 d_Mod_way_33 rfl rfl ?_
        refine r_iload_n 1 d_Mod_way_34 rfl rfl ?_
        refine r_iload_n 2 d_Mod_way_35 rfl rfl ?_
        refine r_iload_n 3 d_Mod_way_36 rfl rfl ?_
        refine r_cVI 8 d_Mod_way_37 lk_Mod_130 vc_Mod_wayOf (mt_wayOf k1.2.2.2.2 hC.2.2.2.2.2 (by omega) (by omega) (by omega) (by omega) (by omega) (by omega)) rfl rfl rfl rfl ⟨Nat.le_of_ble_eq_true rfl, Nat.le_of_ble_eq_true rfl⟩ ⟨Nat.zero_le _, Nat.zero_le _⟩ (Nat.le_of_ble_eq_true rfl) (fun r37 s37 q37 => ?_)
        obtain ⟨e, hF2⟩ := q37
        have hw := way_in (D := g.D) (a := a) k1.2.2.2.2 (t := t) (b := b) (by omega) (by omega) (by omega) (by omega)
        rw [← e] at hw
        refine r_istore 4 d_Mod_way_40 (by decide) rfl ?_
        refine r_iload 4 d_Mod_way_42 rfl ?_
        refine r_ldc kc_Mod_112 d_Mod_way_44 ?_
        refine r_icmp_ge 54 d_Mod_way_46 rfl (by omega) (by omega) (fun h46 => ?_) (fun h46 => ?_)
        · refine r_iconst d_Mod_way_54 ?_
          refine q_iret d_Mod_way_55 rfl ?_
          exact qn_ok (hI.keep (fun c i q => hF2 c i (by omega) (by omega))) (fun c i q => hF2 c i (by omega) (by omega)) (by rw [e] at *; unfold sp_way; (repeat (first | rw [if_pos (by omega)] | rw [if_neg (by omega)])); (try rfl))
        · refine r_iload 4 d_Mod_way_49 rfl ?_
          refine r_goto 55 d_Mod_way_51 rfl ?_
          refine q_iret d_Mod_way_55 rfl ?_
          exact qn_ok (hI.keep (fun c i q => hF2 c i (by omega) (by omega))) (fun c i q => hF2 c i (by omega) (by omega)) (by rw [e] at *; unfold sp_way; (repeat (first | rw [if_pos (by omega)] | rw [if_neg (by omega)])); (try rfl))
      · refine r_aload_n 0 d_Mod_way_26 rfl rfl ?_
        refine r_bipush d_Mod_way_27 (by decide) ?_
        refine r_cVI 8 d_Mod_way_29 lk_Mod_126 vc_Mod_no (mt_no (by omega)) rfl rfl rfl rfl ⟨Nat.le_of_ble_eq_true rfl, Nat.le_of_ble_eq_true rfl⟩ ⟨Nat.zero_le _, Nat.zero_le _⟩ (Nat.le_of_ble_eq_true rfl) (fun r29 s29 q29 => ?_)
        have q := q29
        refine q_iret d_Mod_way_32 rfl ?_
        exact qn_no hI MF.rf q (by unfold sp_way; (repeat (first | rw [if_pos (by omega)] | rw [if_neg (by omega)])); (try rfl))
theorem cr_look {σ : sto} {g : G} {s what : Int} (hI : RI σ g) (hk : g.ok) (h_s : inR s) (h_what : inR what) : CI M_Mod_look 14 [vR 169, vI s, vI what] σ (QM (sp_look g s what) σ) := by
  obtain ⟨hQ, hE⟩ := id hI
  obtain ⟨hC, hU, h45, hrow, h33, hrf⟩ := id hE
  obtain ⟨k1, k2, k3, k4, k5, k6⟩ := id hk
  have hn := k1.1
  have hRV := k2.rv hn.1 hn.2.1
  refine ci_of [vR 169, vI s, vI what] fy_Mod_look.1 rfl (Nat.le_of_ble_eq_true rfl) ?_
  refine r_aload_n 0 d_Mod_look_0 rfl rfl ?_
  refine r_iload_n 1 d_Mod_look_1 rfl rfl ?_
  refine r_cVI 8 d_Mod_look_2 lk_Mod_148 vc_Mod_isStop (mt_isStop hC.1 (by omega) (by omega)) rfl rfl rfl rfl ⟨Nat.le_of_ble_eq_true rfl, Nat.le_of_ble_eq_true rfl⟩ ⟨Nat.zero_le _, Nat.zero_le _⟩ (Nat.le_of_ble_eq_true rfl) (fun r2 s2 q2 => ?_)
  obtain ⟨q2, hs2⟩ := q2
  have hs2 := hs2.symm
  subst hs2
  refine r_if_ne 15 d_Mod_look_5 rfl (by omega) (fun h5 => ?_) (fun h5 => ?_)
  · have hat := hC.at (s := s) (by omega) (by omega)
    have ham := hC.am (s := s) (by omega) (by omega)
    refine r_iload_n 2 d_Mod_look_15 rfl rfl ?_
    rcases (show what = 0 ∨ what = 1 ∨ what = 2 ∨ what = 3 ∨ what = 4 ∨ what = 5 ∨ what = 6 ∨ (what < 0 ∨ 6 < what) by omega) with t0 | t1 | t2 | t3 | t4 | t5 | t6 | tx
    · refine r_tableIn (off := 44) 60 d_Mod_look_16 (by omega) (by omega) (by omega) (by rw [t0]; rfl) rfl ?_
      refine r_aload_n 0 d_Mod_look_60 rfl rfl ?_
      refine r_getR 171 d_Mod_look_61 fk_Mod_13 rfl rfl rfl (by decide) ?_
      refine r_iload_n 1 d_Mod_look_64 rfl rfl ?_
      refine r_iald 12 d_Mod_look_65 rfl rfl (by omega) (by omega) ?_
      rw [hat.1]
      refine q_iret d_Mod_look_66 rfl ?_
      exact qn_ok hI MF.rf (by unfold sp_look; (repeat (first | rw [if_pos (by omega)] | rw [if_neg (by omega)])); (try rfl))
    · refine r_tableIn (off := 51) 67 d_Mod_look_16 (by omega) (by omega) (by omega) (by rw [t1]; rfl) rfl ?_
      refine r_aload_n 0 d_Mod_look_67 rfl rfl ?_
      refine r_getR 172 d_Mod_look_68 fk_Mod_16 rfl rfl rfl (by decide) ?_
      refine r_iload_n 1 d_Mod_look_71 rfl rfl ?_
      refine r_iald 12 d_Mod_look_72 rfl rfl (by omega) (by omega) ?_
      rw [hat.2.1]
      refine q_iret d_Mod_look_73 rfl ?_
      exact qn_ok hI MF.rf (by unfold sp_look; (repeat (first | rw [if_pos (by omega)] | rw [if_neg (by omega)])); (try rfl))
    · refine r_tableIn (off := 58) 74 d_Mod_look_16 (by omega) (by omega) (by omega) (by rw [t2]; rfl) rfl ?_
      refine r_aload_n 0 d_Mod_look_74 rfl rfl ?_
      refine r_getR 176 d_Mod_look_75 fk_Mod_28 rfl rfl rfl (by decide) ?_
      refine r_iload_n 1 d_Mod_look_78 rfl rfl ?_
      refine r_iald 12 d_Mod_look_79 rfl rfl (by omega) (by omega) ?_
      rw [ham]
      refine q_iret d_Mod_look_80 rfl ?_
      exact qn_ok hI MF.rf (by unfold sp_look; (repeat (first | rw [if_pos (by omega)] | rw [if_neg (by omega)])); (try rfl))
    · refine r_tableIn (off := 65) 81 d_Mod_look_16 (by omega) (by omega) (by omega) (by rw [t3]; rfl) rfl ?_
      refine r_aload_n 0 d_Mod_look_81 rfl rfl ?_
      refine r_getR 175 d_Mod_look_82 fk_Mod_25 rfl rfl rfl (by decide) ?_
      refine r_iload_n 1 d_Mod_look_85 rfl rfl ?_
      refine r_iald 12 d_Mod_look_86 rfl rfl (by omega) (by omega) ?_
      rw [hat.2.2.2.2.1]
      refine q_iret d_Mod_look_87 rfl ?_
      exact qn_ok hI MF.rf (by unfold sp_look; (repeat (first | rw [if_pos (by omega)] | rw [if_neg (by omega)])); (try rfl))
    · refine r_tableIn (off := 72) 88 d_Mod_look_16 (by omega) (by omega) (by omega) (by rw [t4]; rfl) rfl ?_
      refine r_aload_n 0 d_Mod_look_88 rfl rfl ?_
      refine r_getR 177 d_Mod_look_89 fk_Mod_31 rfl rfl rfl (by decide) ?_
      refine r_iload_n 1 d_Mod_look_92 rfl rfl ?_
      refine r_iald 12 d_Mod_look_93 rfl rfl (by omega) (by omega) ?_
      rw [hat.2.2.2.2.2.1]
      refine q_iret d_Mod_look_94 rfl ?_
      exact qn_ok hI MF.rf (by unfold sp_look; (repeat (first | rw [if_pos (by omega)] | rw [if_neg (by omega)])); (try rfl))
    · refine r_tableIn (off := 79) 95 d_Mod_look_16 (by omega) (by omega) (by omega) (by rw [t5]; rfl) rfl ?_
      refine r_aload_n 0 d_Mod_look_95 rfl rfl ?_
      refine r_iload_n 1 d_Mod_look_96 rfl rfl ?_
      refine r_cVP 8 d_Mod_look_97 lk_Mod_156 vc_Mod_vanOf (mt_vanOf hC ⟨hn.2.2.1, hn.2.2.2⟩ hQ k2 (by omega)) rfl rfl rfl rfl ⟨Nat.le_of_ble_eq_true rfl, Nat.le_of_ble_eq_true rfl⟩ ⟨Nat.zero_le _, Nat.zero_le _⟩ (Nat.le_of_ble_eq_true rfl) ?_
      refine q_iret d_Mod_look_100 rfl ?_
      exact qn_ok hI MF.rf (by unfold sp_look; (repeat (first | rw [if_pos (by omega)] | rw [if_neg (by omega)])); (try rfl))
    · refine r_tableIn (off := 85) 101 d_Mod_look_16 (by omega) (by omega) (by omega) (by rw [t6]; rfl) rfl ?_
      refine r_aload_n 0 d_Mod_look_101 rfl rfl ?_
      refine r_iload_n 1 d_Mod_look_102 rfl rfl ?_
      refine r_cVP 8 d_Mod_look_103 lk_Mod_168 vc_Mod_placeOf (mt_placeOf hC ⟨hn.2.2.1, hn.2.2.2⟩ hQ k2 (by omega)) rfl rfl rfl rfl ⟨Nat.le_of_ble_eq_true rfl, Nat.le_of_ble_eq_true rfl⟩ ⟨Nat.zero_le _, Nat.zero_le _⟩ (Nat.le_of_ble_eq_true rfl) ?_
      refine q_iret d_Mod_look_106 rfl ?_
      exact qn_ok hI MF.rf (by unfold sp_look; (repeat (first | rw [if_pos (by omega)] | rw [if_neg (by omega)])); (try rfl))
    · refine r_tableOut 107 d_Mod_look_16 (by omega) (by omega) rfl ?_
      refine r_aload_n 0 d_Mod_look_107 rfl rfl ?_
      refine r_bipush d_Mod_look_108 (by decide) ?_
      refine r_cVI 8 d_Mod_look_110 lk_Mod_126 vc_Mod_no (mt_no (by omega)) rfl rfl rfl rfl ⟨Nat.le_of_ble_eq_true rfl, Nat.le_of_ble_eq_true rfl⟩ ⟨Nat.zero_le _, Nat.zero_le _⟩ (Nat.le_of_ble_eq_true rfl) (fun r110 s110 q110 => ?_)
      have q := q110
      refine q_iret d_Mod_look_113 rfl ?_
      exact qn_no hI MF.rf q (by unfold sp_look; (repeat (first | rw [if_pos (by omega)] | rw [if_neg (by omega)])); (try rfl))
  · refine r_aload_n 0 d_Mod_look_8 rfl rfl ?_
    refine r_bipush d_Mod_look_9 (by decide) ?_
    refine r_cVI 8 d_Mod_look_11 lk_Mod_126 vc_Mod_no (mt_no (by omega)) rfl rfl rfl rfl ⟨Nat.le_of_ble_eq_true rfl, Nat.le_of_ble_eq_true rfl⟩ ⟨Nat.zero_le _, Nat.zero_le _⟩ (Nat.le_of_ble_eq_true rfl) (fun r11 s11 q11 => ?_)
    have q := q11
    refine q_iret d_Mod_look_14 rfl ?_
    exact qn_no hI MF.rf q (by unfold sp_look; (repeat (first | rw [if_pos (by omega)] | rw [if_neg (by omega)])); (try rfl))
theorem cr_round {σ : sto} {g : G} {v i : Int} (hI : RI σ g) (hk : g.ok) (h_v : inR v) (h_i : inR i) : CI M_Mod_round 14 [vR 169, vI v, vI i] σ (QM (sp_round g v i) σ) := by
  obtain ⟨hQ, hE⟩ := id hI
  obtain ⟨hC, hU, h45, hrow, h33, hrf⟩ := id hE
  obtain ⟨k1, k2, k3, k4, k5, k6⟩ := id hk
  have hn := k1.1
  have hRV := k2.rv hn.1 hn.2.1
  refine ci_of [vR 169, vI v, vI i] fy_Mod_round.1 rfl (Nat.le_of_ble_eq_true rfl) ?_
  refine r_aload_n 0 d_Mod_round_0 rfl rfl ?_
  refine r_iload_n 1 d_Mod_round_1 rfl rfl ?_
  refine r_cVI 8 d_Mod_round_2 lk_Mod_165 vc_Mod_isVan (mt_isVan hC.2.1 (by omega) (by omega)) rfl rfl rfl rfl ⟨Nat.le_of_ble_eq_true rfl, Nat.le_of_ble_eq_true rfl⟩ ⟨Nat.zero_le _, Nat.zero_le _⟩ (Nat.le_of_ble_eq_true rfl) (fun r2 s2 q2 => ?_)
  obtain ⟨q2, hs2⟩ := q2
  have hs2 := hs2.symm
  subst hs2
  refine r_if_ne 15 d_Mod_round_5 rfl (by omega) (fun h5 => ?_) (fun h5 => ?_)
  · have hz := hQ.len (v := v) (by omega) (by omega)
    refine r_iload_n 2 d_Mod_round_15 rfl rfl ?_
    refine r_iconst d_Mod_round_16 ?_
    refine r_icmp_ne 27 d_Mod_round_17 rfl (by omega) (by omega) (fun h17 => ?_) (fun h17 => ?_)
    · refine r_iload_n 2 d_Mod_round_27 rfl rfl ?_
      refine r_i2l d_Mod_round_28 (by omega) ?_
      refine r_lconst (z := 0) d_Mod_round_29 (by decide) ?_
      refine r_aload_n 0 d_Mod_round_30 rfl rfl ?_
      refine r_getR 184 d_Mod_round_31 fk_Mod_52 rfl rfl rfl (by decide) ?_
      refine r_iload_n 1 d_Mod_round_34 rfl rfl ?_
      refine r_iald 3 d_Mod_round_35 rfl rfl (by omega) (by omega) ?_
      rw [hz.1]
      refine r_iconst d_Mod_round_36 ?_
      refine r_isub d_Mod_round_37 ?_
      refine r_i2l d_Mod_round_38 (by omega) ?_
      refine r_cSI d_Mod_round_39 lk_Mod_122 sc_Mod_isIn (mt_isIn (by omega) (by omega) (by omega)) rfl rfl ⟨Nat.le_of_ble_eq_true rfl, Nat.le_of_ble_eq_true rfl⟩ ⟨Nat.zero_le _, Nat.zero_le _⟩ (Nat.le_of_ble_eq_true rfl) (fun r39 s39 q39 => ?_)
      obtain ⟨q39, hs39⟩ := q39
      have hs39 := hs39.symm
      subst hs39
      refine r_if_eq 59 d_Mod_round_42 rfl (by omega) (fun h42 => ?_) (fun h42 => ?_)
      · refine r_aload_n 0 d_Mod_round_59 rfl rfl ?_
        refine r_bipush d_Mod_round_60 (by decide) ?_
        refine r_cVI 8 d_Mod_round_62 lk_Mod_126 vc_Mod_no (mt_no (by omega)) rfl rfl rfl rfl ⟨Nat.le_of_ble_eq_true rfl, Nat.le_of_ble_eq_true rfl⟩ ⟨Nat.zero_le _, Nat.zero_le _⟩ (Nat.le_of_ble_eq_true rfl) (fun r62 s62 q62 => ?_)
        have q := q62
        refine q_iret d_Mod_round_65 rfl ?_
        first
          | exact qn_no hI MF.rf q (by unfold sp_round; (repeat (first | rw [if_pos (by omega)] | rw [if_neg (by omega)])); (try rfl))
          | (exact qn_ok hI MF.rf (by unfold sp_round; (repeat (first | rw [if_pos (by omega)] | rw [if_neg (by omega)])); (try rfl)))
      · have he := hQ.el (v := v) (i := i) (by omega) (by omega) (by omega) (by omega)
        refine r_aload_n 0 d_Mod_round_45 rfl rfl ?_
        refine r_getR 183 d_Mod_round_46 fk_Mod_49 rfl rfl rfl (by decide) ?_
        refine r_bipush d_Mod_round_49 (by decide) ?_
        refine r_iload_n 1 d_Mod_round_51 rfl rfl ?_
        refine r_imul d_Mod_round_52 ?_
        refine r_iload_n 2 d_Mod_round_53 rfl rfl ?_
        refine r_iadd d_Mod_round_54 ?_
        refine r_iald 36 d_Mod_round_55 rfl rfl (by omega) (by omega) ?_
        rw [he.1]
        refine r_goto 65 d_Mod_round_56 rfl ?_
        refine q_iret d_Mod_round_65 rfl ?_
        first
          | exact qn_no hI MF.rf q (by unfold sp_round; (repeat (first | rw [if_pos (by omega)] | rw [if_neg (by omega)])); (try rfl))
          | (exact qn_ok hI MF.rf (by unfold sp_round; (repeat (first | rw [if_pos (by omega)] | rw [if_neg (by omega)])); (try rfl)))
    · refine r_aload_n 0 d_Mod_round_20 rfl rfl ?_
      refine r_getR 184 d_Mod_round_21 fk_Mod_52 rfl rfl rfl (by decide) ?_
      refine r_iload_n 1 d_Mod_round_24 rfl rfl ?_
      refine r_iald 3 d_Mod_round_25 rfl rfl (by omega) (by omega) ?_
      rw [hz.1]
      refine q_iret d_Mod_round_26 rfl ?_
      exact qn_ok hI MF.rf (by unfold sp_round; (repeat (first | rw [if_pos (by omega)] | rw [if_neg (by omega)])); (try rfl))
  · refine r_aload_n 0 d_Mod_round_8 rfl rfl ?_
    refine r_bipush d_Mod_round_9 (by decide) ?_
    refine r_cVI 8 d_Mod_round_11 lk_Mod_126 vc_Mod_no (mt_no (by omega)) rfl rfl rfl rfl ⟨Nat.le_of_ble_eq_true rfl, Nat.le_of_ble_eq_true rfl⟩ ⟨Nat.zero_le _, Nat.zero_le _⟩ (Nat.le_of_ble_eq_true rfl) (fun r11 s11 q11 => ?_)
    have q := q11
    refine q_iret d_Mod_round_14 rfl ?_
    exact qn_no hI MF.rf q (by unfold sp_round; (repeat (first | rw [if_pos (by omega)] | rw [if_neg (by omega)])); (try rfl))
theorem cr_when {σ : sto} {g : G} {v i what : Int} (hI : RI σ g) (hk : g.ok) (h_v : inR v) (h_i : inR i) (h_what : inR what) : CI M_Mod_when 14 [vR 169, vI v, vI i, vI what] σ (QM (sp_when g v i what) σ) := by
  obtain ⟨hQ, hE⟩ := id hI
  obtain ⟨hC, hU, h45, hrow, h33, hrf⟩ := id hE
  obtain ⟨k1, k2, k3, k4, k5, k6⟩ := id hk
  have hn := k1.1
  have hRV := k2.rv hn.1 hn.2.1
  refine ci_of [vR 169, vI v, vI i, vI what, vU] fy_Mod_when.1 rfl (Nat.le_of_ble_eq_true rfl) ?_
  refine r_aload_n 0 d_Mod_when_0 rfl rfl ?_
  refine r_iload_n 1 d_Mod_when_1 rfl rfl ?_
  refine r_cVI 8 d_Mod_when_2 lk_Mod_165 vc_Mod_isVan (mt_isVan hC.2.1 (by omega) (by omega)) rfl rfl rfl rfl ⟨Nat.le_of_ble_eq_true rfl, Nat.le_of_ble_eq_true rfl⟩ ⟨Nat.zero_le _, Nat.zero_le _⟩ (Nat.le_of_ble_eq_true rfl) (fun r2 s2 q2 => ?_)
  obtain ⟨q2, hs2⟩ := q2
  have hs2 := hs2.symm
  subst hs2
  refine r_if_eq 33 d_Mod_when_5 rfl (by omega) (fun h5 => ?_) (fun h5 => ?_)
  · refine r_aload_n 0 d_Mod_when_33 rfl rfl ?_
    refine r_bipush d_Mod_when_34 (by decide) ?_
    refine r_cVI 8 d_Mod_when_36 lk_Mod_126 vc_Mod_no (mt_no (by omega)) rfl rfl rfl rfl ⟨Nat.le_of_ble_eq_true rfl, Nat.le_of_ble_eq_true rfl⟩ ⟨Nat.zero_le _, Nat.zero_le _⟩ (Nat.le_of_ble_eq_true rfl) (fun r36 s36 q36 => ?_)
    have q := q36
    refine q_iret d_Mod_when_39 rfl ?_
    exact qn_no hI MF.rf q (by unfold sp_when; (repeat (first | rw [if_pos (by omega)] | rw [if_neg (by omega)])); (try rfl))
  · have hz := hQ.len (v := v) (by omega) (by omega)
    refine r_aload_n 0 d_Mod_when_8 rfl rfl ?_
    refine r_getR 184 d_Mod_when_9 fk_Mod_52 rfl rfl rfl (by decide) ?_
    refine r_iload_n 1 d_Mod_when_12 rfl rfl ?_
    refine r_iald 3 d_Mod_when_13 rfl rfl (by omega) (by omega) ?_
    rw [hz.1]
    refine r_if_eq 33 d_Mod_when_14 rfl (by omega) (fun h14 => ?_) (fun h14 => ?_)
    · refine r_aload_n 0 d_Mod_when_33 rfl rfl ?_
      refine r_bipush d_Mod_when_34 (by decide) ?_
      refine r_cVI 8 d_Mod_when_36 lk_Mod_126 vc_Mod_no (mt_no (by omega)) rfl rfl rfl rfl ⟨Nat.le_of_ble_eq_true rfl, Nat.le_of_ble_eq_true rfl⟩ ⟨Nat.zero_le _, Nat.zero_le _⟩ (Nat.le_of_ble_eq_true rfl) (fun r36 s36 q36 => ?_)
      have q := q36
      refine q_iret d_Mod_when_39 rfl ?_
      exact qn_no hI MF.rf q (by unfold sp_when; (repeat (first | rw [if_pos (by omega)] | rw [if_neg (by omega)])); (try rfl))
    · refine r_iload_n 2 d_Mod_when_17 rfl rfl ?_
      refine r_i2l d_Mod_when_18 (by omega) ?_
      refine r_lconst (z := 0) d_Mod_when_19 (by decide) ?_
      refine r_aload_n 0 d_Mod_when_20 rfl rfl ?_
      refine r_getR 184 d_Mod_when_21 fk_Mod_52 rfl rfl rfl (by decide) ?_
      refine r_iload_n 1 d_Mod_when_24 rfl rfl ?_
      refine r_iald 3 d_Mod_when_25 rfl rfl (by omega) (by omega) ?_
      rw [hz.1]
      refine r_i2l d_Mod_when_26 (by omega) ?_
      refine r_cSI d_Mod_when_27 lk_Mod_122 sc_Mod_isIn (mt_isIn (by omega) (by omega) (by omega)) rfl rfl ⟨Nat.le_of_ble_eq_true rfl, Nat.le_of_ble_eq_true rfl⟩ ⟨Nat.zero_le _, Nat.zero_le _⟩ (Nat.le_of_ble_eq_true rfl) (fun r27 s27 q27 => ?_)
      obtain ⟨q27, hs27⟩ := q27
      have hs27 := hs27.symm
      subst hs27
      refine r_if_ne 40 d_Mod_when_30 rfl (by omega) (fun h30 => ?_) (fun h30 => ?_)
      · refine r_iload_n 3 d_Mod_when_40 rfl rfl ?_
        refine r_i2l d_Mod_when_41 (by omega) ?_
        refine r_lconst (z := 0) d_Mod_when_42 (by decide) ?_
        refine r_iload_n 2 d_Mod_when_43 rfl rfl ?_
        refine r_aload_n 0 d_Mod_when_44 rfl rfl ?_
        refine r_getR 184 d_Mod_when_45 fk_Mod_52 rfl rfl rfl (by decide) ?_
        refine r_iload_n 1 d_Mod_when_48 rfl rfl ?_
        refine r_iald 3 d_Mod_when_49 rfl rfl (by omega) (by omega) ?_
        rw [hz.1]
        refine r_icmp_ne 57 d_Mod_when_50 rfl (by omega) (by omega) (fun h50 => ?_) (fun h50 => ?_)
        · refine r_ldc2 kc_Mod_207 d_Mod_when_57 ?_
          refine r_cSI d_Mod_when_60 lk_Mod_122 sc_Mod_isIn (mt_isIn (by omega) (by omega) (by omega)) rfl rfl ⟨Nat.le_of_ble_eq_true rfl, Nat.le_of_ble_eq_true rfl⟩ ⟨Nat.zero_le _, Nat.zero_le _⟩ (Nat.le_of_ble_eq_true rfl) (fun r60 s60 q60 => ?_)
          obtain ⟨q60, hs60⟩ := q60
          have hs60 := hs60.symm
          subst hs60
          refine r_if_ne 73 d_Mod_when_63 rfl (by omega) (fun h63 => ?_) (fun h63 => ?_)
          · refine r_aload_n 0 d_Mod_when_73 rfl rfl ?_
            refine r_iload_n 1 d_Mod_when_74 rfl rfl ?_
            refine r_cVI 8 d_Mod_when_75 lk_Mod_201 vc_Mod_fits (mt_fits hC k1 hQ (by omega) (by omega) (hRV v (by omega) (by omega))) rfl rfl rfl rfl ⟨Nat.le_of_ble_eq_true rfl, Nat.le_of_ble_eq_true rfl⟩ ⟨Nat.zero_le _, Nat.zero_le _⟩ (Nat.le_of_ble_eq_true rfl) (fun r75 s75 q75 => ?_)
            obtain ⟨qa, -, -, qR⟩ := q75
            have hN := (qa.resolve_right (fun q => q.2 (k3 v (by omega) (by omega)))).2.2
            have hI2 := qR.ri hI
            have hz2 := hI2.1.len (v := v) (by omega) (by omega)
            have hN := hN.2 (by omega)
            refine r_istore 4 d_Mod_when_78 (by decide) rfl ?_
            refine r_iload_n 2 d_Mod_when_80 rfl rfl ?_
            refine r_aload_n 0 d_Mod_when_81 rfl rfl ?_
            refine r_getR 184 d_Mod_when_82 fk_Mod_52 rfl rfl rfl (by decide) ?_
            refine r_iload_n 1 d_Mod_when_85 rfl rfl ?_
            refine r_iald 3 d_Mod_when_86 rfl rfl (by omega) (by omega) ?_
            rw [hz2.1]
            refine r_icmp_ne 95 d_Mod_when_87 rfl (by omega) (by omega) (fun h87 => ?_) (fun h87 => ?_)
            · have hNi := hN.2 i (by omega) (by omega)
              refine r_iload_n 3 d_Mod_when_95 rfl rfl ?_
              refine r_if_ne 108 d_Mod_when_96 rfl (by omega) (fun h96 => ?_) (fun h96 => ?_)
              · refine r_iload_n 3 d_Mod_when_108 rfl rfl ?_
                refine r_iconst d_Mod_when_109 ?_
                refine r_icmp_ne 122 d_Mod_when_110 rfl (by omega) (by omega) (fun h110 => ?_) (fun h110 => ?_)
                · refine r_iload_n 3 d_Mod_when_122 rfl rfl ?_
                  refine r_iconst d_Mod_when_123 ?_
                  refine r_icmp_ne 136 d_Mod_when_124 rfl (by omega) (by omega) (fun h124 => ?_) (fun h124 => ?_)
                  · refine r_aload_n 0 d_Mod_when_136 rfl rfl ?_
                    refine r_getR 195 d_Mod_when_137 fk_Mod_86 rfl rfl rfl (by decide) ?_
                    refine r_iload_n 2 d_Mod_when_140 rfl rfl ?_
                    refine r_iald 12 d_Mod_when_141 rfl rfl (by omega) (by omega) ?_
                    rw [hNi.2.2.2]
                    refine q_iret d_Mod_when_142 rfl ?_
                    exact qn_ok hI2 qR.mf (by first | (exfalso; omega) | (unfold sp_when; (repeat (first | rw [if_pos (by omega)] | rw [if_neg (by omega)])); (try rfl)))
                  · refine r_aload_n 0 d_Mod_when_127 rfl rfl ?_
                    refine r_getR 194 d_Mod_when_128 fk_Mod_83 rfl rfl rfl (by decide) ?_
                    refine r_iload_n 2 d_Mod_when_131 rfl rfl ?_
                    refine r_iald 12 d_Mod_when_132 rfl rfl (by omega) (by omega) ?_
                    rw [hNi.2.2.1]
                    refine r_goto 142 d_Mod_when_133 rfl ?_
                    refine q_iret d_Mod_when_142 rfl ?_
                    exact qn_ok hI2 qR.mf (by first | (exfalso; omega) | (unfold sp_when; (repeat (first | rw [if_pos (by omega)] | rw [if_neg (by omega)])); (try rfl)))
                · refine r_aload_n 0 d_Mod_when_113 rfl rfl ?_
                  refine r_getR 193 d_Mod_when_114 fk_Mod_80 rfl rfl rfl (by decide) ?_
                  refine r_iload_n 2 d_Mod_when_117 rfl rfl ?_
                  refine r_iald 12 d_Mod_when_118 rfl rfl (by omega) (by omega) ?_
                  rw [hNi.2.1]
                  refine r_goto 142 d_Mod_when_119 rfl ?_
                  refine q_iret d_Mod_when_142 rfl ?_
                  exact qn_ok hI2 qR.mf (by first | (exfalso; omega) | (unfold sp_when; (repeat (first | rw [if_pos (by omega)] | rw [if_neg (by omega)])); (try rfl)))
              · refine r_aload_n 0 d_Mod_when_99 rfl rfl ?_
                refine r_getR 192 d_Mod_when_100 fk_Mod_77 rfl rfl rfl (by decide) ?_
                refine r_iload_n 2 d_Mod_when_103 rfl rfl ?_
                refine r_iald 12 d_Mod_when_104 rfl rfl (by omega) (by omega) ?_
                rw [hNi.1]
                refine r_goto 142 d_Mod_when_105 rfl ?_
                refine q_iret d_Mod_when_142 rfl ?_
                exact qn_ok hI2 qR.mf (by first | (exfalso; omega) | (unfold sp_when; (repeat (first | rw [if_pos (by omega)] | rw [if_neg (by omega)])); (try rfl)))
            · refine r_aload_n 0 d_Mod_when_90 rfl rfl ?_
              refine r_getI 29 d_Mod_when_91 fk_Mod_188 rfl rfl rfl ?_
              rw [hN.1]
              refine q_iret d_Mod_when_94 rfl ?_
              exact qn_ok hI2 qR.mf (by first | (exfalso; omega) | (unfold sp_when; (repeat (first | rw [if_pos (by omega)] | rw [if_neg (by omega)])); (try rfl)))
          · refine r_aload_n 0 d_Mod_when_66 rfl rfl ?_
            refine r_bipush d_Mod_when_67 (by decide) ?_
            refine r_cVI 8 d_Mod_when_69 lk_Mod_126 vc_Mod_no (mt_no (by omega)) rfl rfl rfl rfl ⟨Nat.le_of_ble_eq_true rfl, Nat.le_of_ble_eq_true rfl⟩ ⟨Nat.zero_le _, Nat.zero_le _⟩ (Nat.le_of_ble_eq_true rfl) (fun r69 s69 q69 => ?_)
            have q := q69
            refine q_iret d_Mod_when_72 rfl ?_
            exact qn_no hI MF.rf q (by unfold sp_when; (repeat (first | rw [if_pos (by omega)] | rw [if_neg (by omega)])); (try rfl))
        · refine r_lconst (z := 0) d_Mod_when_53 (by decide) ?_
          refine r_goto 60 d_Mod_when_54 rfl ?_
          refine r_cSI d_Mod_when_60 lk_Mod_122 sc_Mod_isIn (mt_isIn (by omega) (by omega) (by omega)) rfl rfl ⟨Nat.le_of_ble_eq_true rfl, Nat.le_of_ble_eq_true rfl⟩ ⟨Nat.zero_le _, Nat.zero_le _⟩ (Nat.le_of_ble_eq_true rfl) (fun r60 s60 q60 => ?_)
          obtain ⟨q60, hs60⟩ := q60
          have hs60 := hs60.symm
          subst hs60
          refine r_if_ne 73 d_Mod_when_63 rfl (by omega) (fun h63 => ?_) (fun h63 => ?_)
          · refine r_aload_n 0 d_Mod_when_73 rfl rfl ?_
            refine r_iload_n 1 d_Mod_when_74 rfl rfl ?_
            refine r_cVI 8 d_Mod_when_75 lk_Mod_201 vc_Mod_fits (mt_fits hC k1 hQ (by omega) (by omega) (hRV v (by omega) (by omega))) rfl rfl rfl rfl ⟨Nat.le_of_ble_eq_true rfl, Nat.le_of_ble_eq_true rfl⟩ ⟨Nat.zero_le _, Nat.zero_le _⟩ (Nat.le_of_ble_eq_true rfl) (fun r75 s75 q75 => ?_)
            obtain ⟨qa, -, -, qR⟩ := q75
            have hN := (qa.resolve_right (fun q => q.2 (k3 v (by omega) (by omega)))).2.2
            have hI2 := qR.ri hI
            have hz2 := hI2.1.len (v := v) (by omega) (by omega)
            have hN := hN.2 (by omega)
            refine r_istore 4 d_Mod_when_78 (by decide) rfl ?_
            refine r_iload_n 2 d_Mod_when_80 rfl rfl ?_
            refine r_aload_n 0 d_Mod_when_81 rfl rfl ?_
            refine r_getR 184 d_Mod_when_82 fk_Mod_52 rfl rfl rfl (by decide) ?_
            refine r_iload_n 1 d_Mod_when_85 rfl rfl ?_
            refine r_iald 3 d_Mod_when_86 rfl rfl (by omega) (by omega) ?_
            rw [hz2.1]
            refine r_icmp_ne 95 d_Mod_when_87 rfl (by omega) (by omega) (fun h87 => ?_) (fun h87 => ?_)
            · have hNi := hN.2 i (by omega) (by omega)
              refine r_iload_n 3 d_Mod_when_95 rfl rfl ?_
              refine r_if_ne 108 d_Mod_when_96 rfl (by omega) (fun h96 => ?_) (fun h96 => ?_)
              · refine r_iload_n 3 d_Mod_when_108 rfl rfl ?_
                refine r_iconst d_Mod_when_109 ?_
                refine r_icmp_ne 122 d_Mod_when_110 rfl (by omega) (by omega) (fun h110 => ?_) (fun h110 => ?_)
                · refine r_iload_n 3 d_Mod_when_122 rfl rfl ?_
                  refine r_iconst d_Mod_when_123 ?_
                  refine r_icmp_ne 136 d_Mod_when_124 rfl (by omega) (by omega) (fun h124 => ?_) (fun h124 => ?_)
                  · refine r_aload_n 0 d_Mod_when_136 rfl rfl ?_
                    refine r_getR 195 d_Mod_when_137 fk_Mod_86 rfl rfl rfl (by decide) ?_
                    refine r_iload_n 2 d_Mod_when_140 rfl rfl ?_
                    refine r_iald 12 d_Mod_when_141 rfl rfl (by omega) (by omega) ?_
                    rw [hNi.2.2.2]
                    refine q_iret d_Mod_when_142 rfl ?_
                    exact qn_ok hI2 qR.mf (by first | (exfalso; omega) | (unfold sp_when; (repeat (first | rw [if_pos (by omega)] | rw [if_neg (by omega)])); (try rfl)))
                  · refine r_aload_n 0 d_Mod_when_127 rfl rfl ?_
                    refine r_getR 194 d_Mod_when_128 fk_Mod_83 rfl rfl rfl (by decide) ?_
                    refine r_iload_n 2 d_Mod_when_131 rfl rfl ?_
                    refine r_iald 12 d_Mod_when_132 rfl rfl (by omega) (by omega) ?_
                    rw [hNi.2.2.1]
                    refine r_goto 142 d_Mod_when_133 rfl ?_
                    refine q_iret d_Mod_when_142 rfl ?_
                    exact qn_ok hI2 qR.mf (by first | (exfalso; omega) | (unfold sp_when; (repeat (first | rw [if_pos (by omega)] | rw [if_neg (by omega)])); (try rfl)))
                · refine r_aload_n 0 d_Mod_when_113 rfl rfl ?_
                  refine r_getR 193 d_Mod_when_114 fk_Mod_80 rfl rfl rfl (by decide) ?_
                  refine r_iload_n 2 d_Mod_when_117 rfl rfl ?_
                  refine r_iald 12 d_Mod_when_118 rfl rfl (by omega) (by omega) ?_
                  rw [hNi.2.1]
                  refine r_goto 142 d_Mod_when_119 rfl ?_
                  refine q_iret d_Mod_when_142 rfl ?_
                  exact qn_ok hI2 qR.mf (by first | (exfalso; omega) | (unfold sp_when; (repeat (first | rw [if_pos (by omega)] | rw [if_neg (by omega)])); (try rfl)))
              · refine r_aload_n 0 d_Mod_when_99 rfl rfl ?_
                refine r_getR 192 d_Mod_when_100 fk_Mod_77 rfl rfl rfl (by decide) ?_
                refine r_iload_n 2 d_Mod_when_103 rfl rfl ?_
                refine r_iald 12 d_Mod_when_104 rfl rfl (by omega) (by omega) ?_
                rw [hNi.1]
                refine r_goto 142 d_Mod_when_105 rfl ?_
                refine q_iret d_Mod_when_142 rfl ?_
                exact qn_ok hI2 qR.mf (by first | (exfalso; omega) | (unfold sp_when; (repeat (first | rw [if_pos (by omega)] | rw [if_neg (by omega)])); (try rfl)))
            · refine r_aload_n 0 d_Mod_when_90 rfl rfl ?_
              refine r_getI 29 d_Mod_when_91 fk_Mod_188 rfl rfl rfl ?_
              rw [hN.1]
              refine q_iret d_Mod_when_94 rfl ?_
              exact qn_ok hI2 qR.mf (by first | (exfalso; omega) | (unfold sp_when; (repeat (first | rw [if_pos (by omega)] | rw [if_neg (by omega)])); (try rfl)))
          · refine r_aload_n 0 d_Mod_when_66 rfl rfl ?_
            refine r_bipush d_Mod_when_67 (by decide) ?_
            refine r_cVI 8 d_Mod_when_69 lk_Mod_126 vc_Mod_no (mt_no (by omega)) rfl rfl rfl rfl ⟨Nat.le_of_ble_eq_true rfl, Nat.le_of_ble_eq_true rfl⟩ ⟨Nat.zero_le _, Nat.zero_le _⟩ (Nat.le_of_ble_eq_true rfl) (fun r69 s69 q69 => ?_)
            have q := q69
            refine q_iret d_Mod_when_72 rfl ?_
            exact qn_no hI MF.rf q (by unfold sp_when; (repeat (first | rw [if_pos (by omega)] | rw [if_neg (by omega)])); (try rfl))
      · refine r_aload_n 0 d_Mod_when_33 rfl rfl ?_
        refine r_bipush d_Mod_when_34 (by decide) ?_
        refine r_cVI 8 d_Mod_when_36 lk_Mod_126 vc_Mod_no (mt_no (by omega)) rfl rfl rfl rfl ⟨Nat.le_of_ble_eq_true rfl, Nat.le_of_ble_eq_true rfl⟩ ⟨Nat.zero_le _, Nat.zero_le _⟩ (Nat.le_of_ble_eq_true rfl) (fun r36 s36 q36 => ?_)
        have q := q36
        refine q_iret d_Mod_when_39 rfl ?_
        exact qn_no hI MF.rf q (by unfold sp_when; (repeat (first | rw [if_pos (by omega)] | rw [if_neg (by omega)])); (try rfl))
theorem cr_cost {σ : sto} {g : G} {v : Int} (hI : RI σ g) (hk : g.ok) (h_v : inR v) : CI M_Mod_cost 14 [vR 169, vI v] σ (QM (sp_cost g v) σ) := by
  obtain ⟨hQ, hE⟩ := id hI
  obtain ⟨hC, hU, h45, hrow, h33, hrf⟩ := id hE
  obtain ⟨k1, k2, k3, k4, k5, k6⟩ := id hk
  have hn := k1.1
  have hRV := k2.rv hn.1 hn.2.1
  refine ci_of [vR 169, vI v] fy_Mod_cost.1 rfl (Nat.le_of_ble_eq_true rfl) ?_
  refine r_iload_n 1 d_Mod_cost_0 rfl rfl ?_
  refine r_iconst d_Mod_cost_1 ?_
  refine r_icmp_ne 10 d_Mod_cost_2 rfl (by omega) (by omega) (fun h2 => ?_) (fun h2 => ?_)
  · refine r_aload_n 0 d_Mod_cost_10 rfl rfl ?_
    refine r_iload_n 1 d_Mod_cost_11 rfl rfl ?_
    refine r_cVI 8 d_Mod_cost_12 lk_Mod_165 vc_Mod_isVan (mt_isVan hC.2.1 (by omega) (by omega)) rfl rfl rfl rfl ⟨Nat.le_of_ble_eq_true rfl, Nat.le_of_ble_eq_true rfl⟩ ⟨Nat.zero_le _, Nat.zero_le _⟩ (Nat.le_of_ble_eq_true rfl) (fun r12 s12 q12 => ?_)
    obtain ⟨q12, hs12⟩ := q12
    have hs12 := hs12.symm
    subst hs12
    refine r_if_eq 26 d_Mod_cost_15 rfl (by omega) (fun h15 => ?_) (fun h15 => ?_)
    · refine r_aload_n 0 d_Mod_cost_26 rfl rfl ?_
      refine r_bipush d_Mod_cost_27 (by decide) ?_
      refine r_cVI 8 d_Mod_cost_29 lk_Mod_126 vc_Mod_no (mt_no (by omega)) rfl rfl rfl rfl ⟨Nat.le_of_ble_eq_true rfl, Nat.le_of_ble_eq_true rfl⟩ ⟨Nat.zero_le _, Nat.zero_le _⟩ (Nat.le_of_ble_eq_true rfl) (fun r29 s29 q29 => ?_)
      have q := q29
      refine q_iret d_Mod_cost_32 rfl ?_
      first
        | exact qn_no hI MF.rf q (by unfold sp_cost; (repeat (first | rw [if_pos (by omega)] | rw [if_neg (by omega)])); (try rfl))
        | (exact qn_ok (qR.ri hI) qR.mf (by rw [e]; unfold sp_cost; (repeat (first | rw [if_pos (by omega)] | rw [if_neg (by omega)])); (try rfl)))
    · refine r_aload_n 0 d_Mod_cost_18 rfl rfl ?_
      refine r_iload_n 1 d_Mod_cost_19 rfl rfl ?_
      refine r_cVI 8 d_Mod_cost_20 lk_Mod_204 vc_Mod_costOf (mt_costOf hC k1 hQ (by omega) (by omega) (hRV v (by omega) (by omega))) rfl rfl rfl rfl ⟨Nat.le_of_ble_eq_true rfl, Nat.le_of_ble_eq_true rfl⟩ ⟨Nat.zero_le _, Nat.zero_le _⟩ (Nat.le_of_ble_eq_true rfl) (fun r20 s20 q20 => ?_)
      obtain ⟨e, qR⟩ := q20
      have e := e (k3 v (by omega) (by omega))
      refine r_goto 32 d_Mod_cost_23 rfl ?_
      refine q_iret d_Mod_cost_32 rfl ?_
      first
        | exact qn_no hI MF.rf q (by unfold sp_cost; (repeat (first | rw [if_pos (by omega)] | rw [if_neg (by omega)])); (try rfl))
        | (exact qn_ok (qR.ri hI) qR.mf (by rw [e]; unfold sp_cost; (repeat (first | rw [if_pos (by omega)] | rw [if_neg (by omega)])); (try rfl)))
  · refine r_aload_n 0 d_Mod_cost_5 rfl rfl ?_
    refine r_cVI 8 d_Mod_cost_6 lk_Mod_209 vc_Mod_costAll (mt_costAll hC k1 hQ hRV k3) rfl rfl rfl rfl ⟨Nat.le_of_ble_eq_true rfl, Nat.le_of_ble_eq_true rfl⟩ ⟨Nat.zero_le _, Nat.zero_le _⟩ (Nat.le_of_ble_eq_true rfl) (fun r6 s6 q6 => ?_)
    obtain ⟨e, qR⟩ := q6
    refine q_iret d_Mod_cost_9 rfl ?_
    exact qn_ok (qR.ri hI) qR.mf (by rw [e]; unfold sp_cost; (repeat (first | rw [if_pos (by omega)] | rw [if_neg (by omega)])); (try rfl))
theorem cr_where {σ : sto} {g : G} (hI : RI σ g) : CI M_Mod_where 14 [vR 169] σ (QM (g.lw, g) σ) := by
  refine ci_of [vR 169] fy_Mod_where.1 rfl (Nat.le_of_ble_eq_true rfl) ?_
  refine r_aload_n 0 d_Mod_where_0 rfl rfl ?_
  refine r_getI 33 d_Mod_where_1 fk_Mod_89 rfl rfl rfl ?_
  rw [hI.2.2.2.2.2.1]
  refine q_iret d_Mod_where_4 rfl ?_
  exact qn_ok hI MF.rf rfl
theorem cr_status {σ : sto} {g : G} {b : Int} (hI : RI σ g) (hk : g.ok) (h_b : inR b) : CI M_Mod_status 14 [vR 169, vI b] σ (QM (sp_status g b) σ) := by
  obtain ⟨hQ, hE⟩ := id hI
  obtain ⟨hC, hU, h45, hrow, h33, hrf⟩ := id hE
  obtain ⟨k1, k2, k3, k4, k5, k6⟩ := id hk
  have hn := k1.1
  have hRV := k2.rv hn.1 hn.2.1
  refine ci_of [vR 169, vI b] fy_Mod_status.1 rfl (Nat.le_of_ble_eq_true rfl) ?_
  refine r_iload_n 1 d_Mod_status_0 rfl rfl ?_
  refine r_i2l d_Mod_status_1 (by omega) ?_
  refine r_ldc2 kc_Mod_296 d_Mod_status_2 ?_
  refine r_ldc2 kc_Mod_298 d_Mod_status_5 ?_
  refine r_cSI d_Mod_status_8 lk_Mod_122 sc_Mod_isIn (mt_isIn (by omega) (by omega) (by omega)) rfl rfl ⟨Nat.le_of_ble_eq_true rfl, Nat.le_of_ble_eq_true rfl⟩ ⟨Nat.zero_le _, Nat.zero_le _⟩ (Nat.le_of_ble_eq_true rfl) (fun r8 s8 q8 => ?_)
  obtain ⟨q8, hs8⟩ := q8
  have hs8 := hs8.symm
  subst hs8
  refine r_if_eq 24 d_Mod_status_11 rfl (by omega) (fun h11 => ?_) (fun h11 => ?_)
  · refine r_aload_n 0 d_Mod_status_24 rfl rfl ?_
    refine r_bipush d_Mod_status_25 (by decide) ?_
    refine r_cVI 8 d_Mod_status_27 lk_Mod_126 vc_Mod_no (mt_no (by omega)) rfl rfl rfl rfl ⟨Nat.le_of_ble_eq_true rfl, Nat.le_of_ble_eq_true rfl⟩ ⟨Nat.zero_le _, Nat.zero_le _⟩ (Nat.le_of_ble_eq_true rfl) (fun r27 s27 q27 => ?_)
    have q := q27
    refine q_iret d_Mod_status_30 rfl ?_
    first
      | exact qn_no hI MF.rf q (by unfold sp_status; (repeat (first | rw [if_pos (by omega)] | rw [if_neg (by omega)])); (try rfl))
      | (exact qn_ok hI MF.rf (by unfold sp_status; (repeat (first | rw [if_pos (by omega)] | rw [if_neg (by omega)])); (try rfl)))
  · refine r_aload_n 0 d_Mod_status_14 rfl rfl ?_
    refine r_getR 188 d_Mod_status_15 fk_Mod_64 rfl rfl rfl (by decide) ?_
    refine r_iload_n 1 d_Mod_status_18 rfl rfl ?_
    refine r_ineg d_Mod_status_19 ?_
    refine r_iald 9 d_Mod_status_20 rfl rfl (by omega) (by omega) ?_
    rw [hrf (-b) (by omega) (by omega)]
    refine r_goto 30 d_Mod_status_21 rfl ?_
    refine q_iret d_Mod_status_30 rfl ?_
    first
      | exact qn_no hI MF.rf q (by unfold sp_status; (repeat (first | rw [if_pos (by omega)] | rw [if_neg (by omega)])); (try rfl))
      | (exact qn_ok hI MF.rf (by unfold sp_status; (repeat (first | rw [if_pos (by omega)] | rw [if_neg (by omega)])); (try rfl)))
theorem cr_row {σ : sto} {g : G} {i : Int} (hI : RI σ g) (hk : g.ok) (h_i : inR i) : CI M_Mod_row 14 [vR 169, vI i] σ (QM (sp_row g i) σ) := by
  obtain ⟨hQ, hE⟩ := id hI
  obtain ⟨hC, hU, h45, hrow, h33, hrf⟩ := id hE
  obtain ⟨k1, k2, k3, k4, k5, k6⟩ := id hk
  have hn := k1.1
  have hRV := k2.rv hn.1 hn.2.1
  refine ci_of [vR 169, vI i] fy_Mod_row.1 rfl (Nat.le_of_ble_eq_true rfl) ?_
  refine r_aload_n 0 d_Mod_row_0 rfl rfl ?_
  refine r_getI 45 d_Mod_row_1 fk_Mod_99 rfl rfl rfl ?_
  rw [h45]
  refine r_if_ge 14 d_Mod_row_4 rfl (by omega) (fun h4 => ?_) (fun h4 => ?_)
  · refine r_iload_n 1 d_Mod_row_14 rfl rfl ?_
    refine r_i2l d_Mod_row_15 (by omega) ?_
    refine r_lconst (z := 0) d_Mod_row_16 (by decide) ?_
    refine r_aload_n 0 d_Mod_row_17 rfl rfl ?_
    refine r_getI 45 d_Mod_row_18 fk_Mod_99 rfl rfl rfl ?_
    rw [h45]
    refine r_iconst d_Mod_row_21 ?_
    refine r_isub d_Mod_row_22 ?_
    refine r_i2l d_Mod_row_23 (by omega) ?_
    refine r_cSI d_Mod_row_24 lk_Mod_122 sc_Mod_isIn (mt_isIn (by omega) (by omega) (by omega)) rfl rfl ⟨Nat.le_of_ble_eq_true rfl, Nat.le_of_ble_eq_true rfl⟩ ⟨Nat.zero_le _, Nat.zero_le _⟩ (Nat.le_of_ble_eq_true rfl) (fun r24 s24 q24 => ?_)
    obtain ⟨q24, hs24⟩ := q24
    have hs24 := hs24.symm
    subst hs24
    refine r_if_eq 39 d_Mod_row_27 rfl (by omega) (fun h27 => ?_) (fun h27 => ?_)
    · refine r_aload_n 0 d_Mod_row_39 rfl rfl ?_
      refine r_bipush d_Mod_row_40 (by decide) ?_
      refine r_cVI 8 d_Mod_row_42 lk_Mod_126 vc_Mod_no (mt_no (by omega)) rfl rfl rfl rfl ⟨Nat.le_of_ble_eq_true rfl, Nat.le_of_ble_eq_true rfl⟩ ⟨Nat.zero_le _, Nat.zero_le _⟩ (Nat.le_of_ble_eq_true rfl) (fun r42 s42 q42 => ?_)
      have q := q42
      refine q_iret d_Mod_row_45 rfl ?_
      first
        | exact qn_no hI MF.rf q (by unfold sp_row; (repeat (first | rw [if_pos (by omega)] | rw [if_neg (by omega)])); (try rfl))
        | (exact qn_ok hI MF.rf (by unfold sp_row; (repeat (first | rw [if_pos (by omega)] | rw [if_neg (by omega)])); (try rfl)))
    · refine r_aload_n 0 d_Mod_row_30 rfl rfl ?_
      refine r_getR 196 d_Mod_row_31 fk_Mod_93 rfl rfl rfl (by decide) ?_
      refine r_iload_n 1 d_Mod_row_34 rfl rfl ?_
      refine r_iald 12 d_Mod_row_35 rfl rfl (by omega) (by omega) ?_
      rw [hrow i (by omega) (by omega)]
      refine r_goto 45 d_Mod_row_36 rfl ?_
      refine q_iret d_Mod_row_45 rfl ?_
      first
        | exact qn_no hI MF.rf q (by unfold sp_row; (repeat (first | rw [if_pos (by omega)] | rw [if_neg (by omega)])); (try rfl))
        | (exact qn_ok hI MF.rf (by unfold sp_row; (repeat (first | rw [if_pos (by omega)] | rw [if_neg (by omega)])); (try rfl)))
  · refine r_aload_n 0 d_Mod_row_7 rfl rfl ?_
    refine r_bipush d_Mod_row_8 (by decide) ?_
    refine r_cVI 8 d_Mod_row_10 lk_Mod_126 vc_Mod_no (mt_no (by omega)) rfl rfl rfl rfl ⟨Nat.le_of_ble_eq_true rfl, Nat.le_of_ble_eq_true rfl⟩ ⟨Nat.zero_le _, Nat.zero_le _⟩ (Nat.le_of_ble_eq_true rfl) (fun r10 s10 q10 => ?_)
    have q := q10
    refine q_iret d_Mod_row_13 rfl ?_
    exact qn_no hI MF.rf q (by unfold sp_row; (repeat (first | rw [if_pos (by omega)] | rw [if_neg (by omega)])); (try rfl))
theorem cr_tear {σ : sto} {g : G} (hI : RI σ g) (hk : g.ok)  : CI M_Mod_tear 14 [vR 169] σ (QM (sp_tear g) σ) := by
  obtain ⟨hQ, hE⟩ := id hI
  obtain ⟨hC, hU, h45, hrow, h33, hrf⟩ := id hE
  obtain ⟨k1, k2, k3, k4, k5, k6⟩ := id hk
  have hn := k1.1
  have hRV := k2.rv hn.1 hn.2.1
  refine ci_of [vR 169, vU] fy_Mod_tear.1 rfl (Nat.le_of_ble_eq_true rfl) ?_
  refine r_aload_n 0 d_Mod_tear_0 rfl rfl ?_
  refine r_getI 45 d_Mod_tear_1 fk_Mod_99 rfl rfl rfl ?_
  rw [h45]
  refine r_if_lt 11 d_Mod_tear_4 rfl (by omega) (fun h4 => ?_) (fun h4 => ?_)
  · refine r_iconst d_Mod_tear_11 ?_
    refine r_istore_n 1 d_Mod_tear_12 rfl (by decide) rfl ?_
    refine r_aload_n 0 d_Mod_tear_13 rfl rfl ?_
    refine r_iconst d_Mod_tear_14 ?_
    refine r_putI 45 d_Mod_tear_15 fk_Mod_99 rfl rfl rfl (Or.inl rfl) ?_
    refine r_iload_n 1 d_Mod_tear_18 rfl rfl ?_
    refine q_iret d_Mod_tear_19 rfl ?_
    first
      | (refine qn_ok (g' := g) ⟨hQ.keep (fun c i q => wr_ne (by omega)), hC.keep (fun c i q => wr_ne (by omega)), hU.keep (wr_ne (by omega)) (fun i => wr_ne (by omega)), by rw [wr_eq]; omega, fun i i0 i1 => by rw [wr_ne (by omega)]; exact hrow i i0 i1, by rw [wr_ne (by omega)]; exact h33, fun k k0 k1 => by rw [wr_ne (by omega)]; exact hrf k k0 k1⟩ (fun c i q => wr_ne (by omega)) (by unfold sp_tear; (repeat (first | rw [if_pos (by omega)] | rw [if_neg (by omega)])); (try rfl)))
      | (refine qn_ok (g' := g.row (-1) g.rn) ⟨hQ.keep (fun c i q => wr_ne (by omega)), hC.keep (fun c i q => wr_ne (by omega)), hU.keep (wr_ne (by omega)) (fun i => wr_ne (by omega)), wr_eq, fun i i0 i1 => (by have i1 : i < -1 := i1; omega), by rw [wr_ne (by omega)]; exact h33, fun k k0 k1 => by rw [wr_ne (by omega)]; exact hrf k k0 k1⟩ (fun c i q => wr_ne (by omega)) (by unfold sp_tear; (repeat (first | rw [if_pos (by omega)] | rw [if_neg (by omega)])); (try rfl)))
  · refine r_iconst d_Mod_tear_7 ?_
    refine r_goto 12 d_Mod_tear_8 rfl ?_
    refine r_istore_n 1 d_Mod_tear_12 rfl (by decide) rfl ?_
    refine r_aload_n 0 d_Mod_tear_13 rfl rfl ?_
    refine r_iconst d_Mod_tear_14 ?_
    refine r_putI 45 d_Mod_tear_15 fk_Mod_99 rfl rfl rfl (Or.inl rfl) ?_
    refine r_iload_n 1 d_Mod_tear_18 rfl rfl ?_
    refine q_iret d_Mod_tear_19 rfl ?_
    first
      | (refine qn_ok (g' := g) ⟨hQ.keep (fun c i q => wr_ne (by omega)), hC.keep (fun c i q => wr_ne (by omega)), hU.keep (wr_ne (by omega)) (fun i => wr_ne (by omega)), by rw [wr_eq]; omega, fun i i0 i1 => by rw [wr_ne (by omega)]; exact hrow i i0 i1, by rw [wr_ne (by omega)]; exact h33, fun k k0 k1 => by rw [wr_ne (by omega)]; exact hrf k k0 k1⟩ (fun c i q => wr_ne (by omega)) (by unfold sp_tear; (repeat (first | rw [if_pos (by omega)] | rw [if_neg (by omega)])); (try rfl)))
      | (refine qn_ok (g' := g.row (-1) g.rn) ⟨hQ.keep (fun c i q => wr_ne (by omega)), hC.keep (fun c i q => wr_ne (by omega)), hU.keep (wr_ne (by omega)) (fun i => wr_ne (by omega)), wr_eq, fun i i0 i1 => (by have i1 : i < -1 := i1; omega), by rw [wr_ne (by omega)]; exact h33, fun k k0 k1 => by rw [wr_ne (by omega)]; exact hrf k k0 k1⟩ (fun c i q => wr_ne (by omega)) (by unfold sp_tear; (repeat (first | rw [if_pos (by omega)] | rw [if_neg (by omega)])); (try rfl)))
theorem cr_undo {σ : sto} {g : G} (hI : RI σ g) (hk : g.ok)  : CI M_Mod_undo 14 [vR 169] σ (QM (sp_undo g) σ) := by
  obtain ⟨hQ, hE⟩ := id hI
  obtain ⟨hC, hU, h45, hrow, h33, hrf⟩ := id hE
  obtain ⟨k1, k2, k3, k4, k5, k6⟩ := id hk
  have hn := k1.1
  have hRV := k2.rv hn.1 hn.2.1
  refine ci_of [vR 169] fy_Mod_undo.1 rfl (Nat.le_of_ble_eq_true rfl) ?_
  refine r_aload_n 0 d_Mod_undo_0 rfl rfl ?_
  refine r_getI 20 d_Mod_undo_1 fk_Mod_137 rfl rfl rfl ?_
  rw [hU.1]
  refine r_if_ne 14 d_Mod_undo_4 rfl (by have := hU.2.1; unfold lp at *; omega) (fun h4 => ?_) (fun h4 => ?_)
  · obtain ⟨Q, U1, hq⟩ : ∃ Q U1, g.U = Q :: U1 := by
      rcases hq : g.U with _ | ⟨Q, U1⟩
      · exfalso; rw [hq] at h4; exact h4 rfl
      · exact ⟨Q, U1, rfl⟩
    have kq := k4 Q (by rw [hq]; exact List.mem_cons_self)
    have el : lp g.U = lp U1 + 1 := by rw [hq]; unfold lp; rw [List.length_cons]; omega
    have l0 : 0 ≤ lp U1 := by unfold lp; omega
    have kR := kq.1.rv hn.1 hn.2.1
    refine r_aload_n 0 d_Mod_undo_14 rfl rfl ?_
    refine r_dup d_Mod_undo_15 rfl ?_
    refine r_getI 20 d_Mod_undo_16 fk_Mod_137 rfl rfl rfl ?_
    rw [hU.1]
    refine r_iconst d_Mod_undo_19 ?_
    refine r_isub d_Mod_undo_20 ?_
    refine r_putI 20 d_Mod_undo_21 fk_Mod_137 rfl rfl rfl (Or.inl rfl) ?_
    refine r_aload_n 0 d_Mod_undo_24 rfl rfl ?_
    refine r_aload_n 0 d_Mod_undo_25 rfl rfl ?_
    refine r_getR 185 d_Mod_undo_26 fk_Mod_55 rfl rfl rfl (by decide) ?_
    refine r_bipush d_Mod_undo_29 (by decide) ?_
    refine r_aload_n 0 d_Mod_undo_31 rfl rfl ?_
    refine r_getI 20 d_Mod_undo_32 fk_Mod_137 rfl rfl rfl ?_
    rw [wr_eq]
    refine r_imul d_Mod_undo_35 ?_
    refine r_cVV 8 d_Mod_undo_36 lk_Mod_217 vc_Mod_takes (mt_takes (n := 780) rfl rfl (by omega) (by omega) (by omega) (by omega)) rfl rfl rfl rfl ⟨Nat.le_of_ble_eq_true rfl, Nat.le_of_ble_eq_true rfl⟩ ⟨Nat.zero_le _, Nat.zero_le _⟩ (Nat.le_of_ble_eq_true rfl) (fun s36 q36 => ?_)
    obtain ⟨t1, t2, t3⟩ := q36
    have a0 : AP (wr σ 169 20 (lp g.U - 1)) 185 (39 * (lp g.U - 1)) Q := by
      have := hU.2.2 0 (by omega) (by omega)
      rw [Int.sub_zero, hq] at this
      rw [hq]
      exact AP.keep this (fun k _ _ => wr_ne (by omega))
    have hQ1 : RA s36 Q := a0.to t1 t2
    have gF : ∀ c i : Int, c ≠ 183 → c ≠ 184 → (c ≠ 169 ∨ i ≠ 20) → s36 c i = σ c i := fun c i q1 q2 q3 => by rw [t3 c i q1 q2, wr_ne (by omega)]
    have hC1 : DR s36 g.D g.ns g.nv := hC.keep (fun c i q => gF c i (by omega) (by omega) (by omega))
    have hU1 : RU s36 U1 := by
      refine ⟨by rw [t3 169 20 (by omega) (by omega), wr_eq]; omega, by omega, fun j j0 j1 => ?_⟩
      have := hU.2.2 (j + 1) (by omega) (by omega)
      rw [show lp g.U - 1 - (j + 1) = lp U1 - 1 - j by omega] at this
      have e2 : gp g.U (j + 1) = gp U1 j := by rw [hq]; unfold gp; rw [show (j + 1).toNat = j.toNat + 1 by omega]; rfl
      rw [e2] at this
      exact this.keep (fun k _ _ => gF 185 k (by omega) (by omega) (by omega))
    have hE1 : RE s36 (g.plan Q U1) := ⟨hC1, hU1, by rw [gF 169 45 (by omega) (by omega) (by omega)]; exact h45, fun i i0 i1 => by rw [gF 196 i (by omega) (by omega) (by omega)]; exact hrow i i0 i1, by rw [gF 169 33 (by omega) (by omega) (by omega)]; exact h33, fun k k0 k1 => by rw [gF 188 k (by omega) (by omega) (by omega)]; exact hrf k k0 k1⟩
    refine r_aload_n 0 d_Mod_undo_39 rfl rfl ?_
    refine r_cVI 8 d_Mod_undo_40 lk_Mod_209 vc_Mod_costAll (mt_costAll hC1 k1 hQ1 kR kq.2) rfl rfl rfl rfl ⟨Nat.le_of_ble_eq_true rfl, Nat.le_of_ble_eq_true rfl⟩ ⟨Nat.zero_le _, Nat.zero_le _⟩ (Nat.le_of_ble_eq_true rfl) (fun r40 s40 q40 => ?_)
    obtain ⟨e, qR⟩ := q40
    refine q_iret d_Mod_undo_43 rfl ?_
    have hI1 : RI s36 (g.plan Q U1) := ⟨hQ1, hE1⟩
    refine qn_ok (g' := g.plan Q U1) (qR.ri hI1) (MF.tr (fun c i q => gF c i (by omega) (by omega) (by omega)) qR.mf) (by unfold sp_undo; rw [if_neg h4, hq, e]; rfl)
  · refine r_aload_n 0 d_Mod_undo_7 rfl rfl ?_
    refine r_bipush d_Mod_undo_8 (by decide) ?_
    refine r_cVI 8 d_Mod_undo_10 lk_Mod_126 vc_Mod_no (mt_no (by omega)) rfl rfl rfl rfl ⟨Nat.le_of_ble_eq_true rfl, Nat.le_of_ble_eq_true rfl⟩ ⟨Nat.zero_le _, Nat.zero_le _⟩ (Nat.le_of_ble_eq_true rfl) (fun r10 s10 q10 => ?_)
    have q := q10
    refine q_iret d_Mod_undo_13 rfl ?_
    exact qn_no hI MF.rf q (by unfold sp_undo; (repeat (first | rw [if_pos (by omega)] | rw [if_neg (by omega)])); (try rfl))
theorem mt_inRounds {σ : sto} {P : pln} (hQ : RA σ P) : CI M_Mod_inRounds 0 [vR 169] σ (fun r σ' => r = szP P ∧ σ' = σ) := by
  refine ci_of [vR 169] fy_Mod_inRounds.1 rfl (Nat.le_of_ble_eq_true rfl) ?_
  refine r_aload_n 0 d_Mod_inRounds_0 rfl rfl ?_
  refine r_getR 184 d_Mod_inRounds_1 fk_Mod_52 rfl rfl rfl (by decide) ?_
  refine r_iconst d_Mod_inRounds_4 ?_
  refine r_iald 3 d_Mod_inRounds_5 rfl rfl (by omega) (by omega) ?_
  rw [(hQ.len (v := 0) (by omega) (by omega)).1]
  refine r_aload_n 0 d_Mod_inRounds_6 rfl rfl ?_
  refine r_getR 184 d_Mod_inRounds_7 fk_Mod_52 rfl rfl rfl (by decide) ?_
  refine r_iconst d_Mod_inRounds_10 ?_
  refine r_iald 3 d_Mod_inRounds_11 rfl rfl (by omega) (by omega) ?_
  rw [(hQ.len (v := 1) (by omega) (by omega)).1]
  refine r_iadd d_Mod_inRounds_12 ?_
  refine r_aload_n 0 d_Mod_inRounds_13 rfl rfl ?_
  refine r_getR 184 d_Mod_inRounds_14 fk_Mod_52 rfl rfl rfl (by decide) ?_
  refine r_iconst d_Mod_inRounds_17 ?_
  refine r_iald 3 d_Mod_inRounds_18 rfl rfl (by omega) (by omega) ?_
  rw [(hQ.len (v := 2) (by omega) (by omega)).1]
  refine r_iadd d_Mod_inRounds_19 ?_
  refine q_iret d_Mod_inRounds_20 rfl ?_
  exact ⟨rfl, rfl⟩
theorem cr_clear {σ : sto} {g : G} (hI : RI σ g) (hk : g.ok) : CI M_Mod_clear 14 [vR 169] σ (QM (sp_clear g) σ) := by
  obtain ⟨hQ, hE⟩ := id hI
  obtain ⟨hC, hU, h45, hrow, h33, hrf⟩ := id hE
  obtain ⟨k1, k2, k3, k4, k5, k6⟩ := id hk
  have hn := k1.1
  have hRV := k2.rv hn.1 hn.2.1
  have L : ∀ k, 0 ≤ k → k ≤ 3 → ∀ σ1 : sto, RE σ1 g → AP σ1 186 0 g.P → MF σ σ1 → (∀ j, 0 ≤ j → j < k → σ1 184 j = 0) → Run M_Mod_clear (rxI 14 (QM (sp_clear g) σ)) (0, 0) 16 [vR 169, vI (szP g.P), vI k] [] (sg σ1) := by
    refine up_ind (b := 3) ?_ ?_
    · intro σ1 hE1 hA1 hF1 hz
      have hQ1 : RA σ1 (fun _ => []) := fun v v0 v1 => ⟨hz v v0 v1, by show (0 : Int) ≤ 12; decide, fun i i0 i1 => (by have : i < 0 := i1; omega)⟩
      refine r_iload_n 2 d_Mod_clear_16 rfl rfl ?_
      refine r_iconst d_Mod_clear_17 ?_
      refine r_icmp_ge 34 d_Mod_clear_18 rfl (by omega) (by omega) (fun h18 => ?_) (fun h18 => absurd h18 (by omega))
      refine r_aload_n 0 d_Mod_clear_34 rfl rfl ?_
      refine r_cVV 8 d_Mod_clear_35 lk_Mod_221 vc_Mod_notes (mt_notes hQ1 hA1 hE1.2.1) rfl rfl rfl rfl ⟨Nat.le_of_ble_eq_true rfl, Nat.le_of_ble_eq_true rfl⟩ ⟨Nat.zero_le _, Nat.zero_le _⟩ (Nat.le_of_ble_eq_true rfl) (fun s35 q35 => ?_)
      obtain ⟨n1, n2⟩ := q35
      refine r_iload_n 1 d_Mod_clear_38 rfl rfl ?_
      refine q_iret d_Mod_clear_39 rfl ?_
      exact qn_ok (RI.adopt hQ1 hE1 n1 n2) (hF1.tr (fun c i q => n2 c i (by omega) (by omega))) rfl
    · intro k k0 kk ih σ1 hE1 hA1 hF1 hz
      refine r_iload_n 2 d_Mod_clear_16 rfl rfl ?_
      refine r_iconst d_Mod_clear_17 ?_
      refine r_icmp_ge 34 d_Mod_clear_18 rfl (by omega) (by omega) (fun h18 => absurd h18 (by omega)) (fun h18 => ?_)
      refine r_aload_n 0 d_Mod_clear_21 rfl rfl ?_
      refine r_getR 184 d_Mod_clear_22 fk_Mod_52 rfl rfl rfl (by decide) ?_
      refine r_iload_n 2 d_Mod_clear_25 rfl rfl ?_
      refine r_iconst d_Mod_clear_26 ?_
      refine r_iast 3 d_Mod_clear_27 rfl rfl (by omega) (by omega) ?_
      refine r_iinc 2 d_Mod_clear_28 rfl (by decide) rfl ?_
      refine r_goto 16 d_Mod_clear_31 rfl ?_
      refine ih _ (hE1.keep (fun c i q => wr_ne (by omega))) (hA1.keep (fun k _ _ => wr_ne (by omega))) (hF1.tr (fun c i q => wr_ne (by omega))) (fun j j0 j1 => ?_)
      by_cases e : j = k
      · rw [e, wr_eq]
      · rw [wr_ne (by omega)]; exact hz j j0 (by omega)
  refine ci_of [vR 169, vU, vU] fy_Mod_clear.1 rfl (Nat.le_of_ble_eq_true rfl) ?_
  refine r_aload_n 0 d_Mod_clear_0 rfl rfl ?_
  refine r_aload_n 0 d_Mod_clear_1 rfl rfl ?_
  refine r_getR 186 d_Mod_clear_2 fk_Mod_58 rfl rfl rfl (by decide) ?_
  refine r_iconst d_Mod_clear_5 ?_
  refine r_cVV 8 d_Mod_clear_6 lk_Mod_231 vc_Mod_keeps (mt_keeps (n := 39) rfl rfl (Int.le_refl _) (by omega) (by omega) (by omega)) rfl rfl rfl rfl ⟨Nat.le_of_ble_eq_true rfl, Nat.le_of_ble_eq_true rfl⟩ ⟨Nat.zero_le _, Nat.zero_le _⟩ (Nat.le_of_ble_eq_true rfl) (fun s6 q6 => ?_)
  obtain ⟨t1, t2, t3⟩ := q6
  have hA1 : AP s6 186 0 g.P := AP.of hQ t1 t2
  have hQ1 := hQ.keep (σ' := s6) (fun c i q => t3 c i (by omega))
  have hE1 := hE.keep (σ' := s6) (fun c i q => t3 c i (by omega))
  refine r_aload_n 0 d_Mod_clear_9 rfl rfl ?_
  refine r_cVP 8 d_Mod_clear_10 lk_Mod_289 vc_Mod_inRounds (mt_inRounds hQ1) rfl rfl rfl rfl ⟨Nat.le_of_ble_eq_true rfl, Nat.le_of_ble_eq_true rfl⟩ ⟨Nat.zero_le _, Nat.zero_le _⟩ (Nat.le_of_ble_eq_true rfl) ?_
  refine r_istore_n 1 d_Mod_clear_13 rfl (by decide) rfl ?_
  refine r_iconst d_Mod_clear_14 ?_
  refine r_istore_n 2 d_Mod_clear_15 rfl (by decide) rfl ?_
  exact L 0 (by omega) (by omega) _ hE1 hA1 (fun c i q => t3 c i (by omega)) (fun j j0 j1 => by omega)
