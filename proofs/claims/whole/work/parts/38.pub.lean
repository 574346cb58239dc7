-- THE CLASS: its calls, those that leave the data (walks written by wip/whole/gen_pub.py)
theorem fin_ok {σ σ1 : sto} {g' : G} {B B1 r : Int} {a : Int × G} (hI : OI σ1 g' B1) (hB : B1 ≤ B + 2) (hk : g'.ok) (hF : VF σ σ1) (e : a = (r, g')) : PV a σ B r σ1 := by
  rw [e]; exact ⟨rfl, hI.le hB, hk, hF⟩
theorem fin_eq {σ σ' : sto} {B r : Int} {a b : Int × G} (h : PV b σ B r σ') (e : a = b) : PV a σ B r σ' := by rw [e]; exact h
theorem vanOf_in (P : pln) (s : Int) : -1 ≤ vanOf P s ∧ vanOf P s < 3 := by rcases vanOf_cases P s with ⟨v, a, b, -, -, c, -⟩ | ⟨-, c, -⟩ <;> omega
theorem plcOf_in {ns nv : Int} {P : pln} (h : PO ns nv P) (hR : RVP ns P) (s : Int) : -1 ≤ plcOf P s ∧ plcOf P s < 12 := by
  by_cases e : s ∈ al3 P
  · obtain ⟨a, b, c, d, f, i, j, k⟩ := vanOf_yes h e
    have := (hR _ a b).1
    omega
  · rcases vanOf_cases P s with ⟨v, a, b, c, -, -, -⟩ | ⟨-, -, c⟩
    · exact absurd (mem_al3.mpr ⟨v, a, b, c⟩) e
    · omega
theorem cv_way {σ : sto} {g : G} {B a b t : Int} (hI : OI σ g B) (hB : B ≤ 3998) (hk : g.ok) (h_a : inR a) (h_b : inR b) (h_t : inR t) : CI M_Van_way 14 [vR 0, vI a, vI b, vI t] σ (PV (sp_way g a b t) σ B) := by
  obtain ⟨h1, hT, hQ, hU, h09, hrn, h010, hrf⟩ := id hI
  obtain ⟨k1, k2, k3, k4, k5, k6⟩ := id hk
  have hn := k1.1
  have hRV := k2.rv hn.1 hn.2.1
  refine ci_of [vR 0, vI a, vI b, vI t, vU] fy_Van_way.1 rfl (Nat.le_of_ble_eq_true rfl) ?_
  refine r_iload_n 1 d_Van_way_0 rfl rfl ?_
  refine r_cSI d_Van_way_1 lk_Van_70 sc_Van_isPlace (ct_isPlace (by omega)) rfl rfl ⟨Nat.le_of_ble_eq_true rfl, Nat.le_of_ble_eq_true rfl⟩ ⟨Nat.zero_le _, Nat.zero_le _⟩ (Nat.le_of_ble_eq_true rfl) (fun r1 s1 q1 => ?_)
  obtain ⟨q1, hs1⟩ := q1
  have hs1 := hs1.symm
  subst hs1
  refine r_if_eq 25 d_Van_way_4 rfl (by omega) (fun h4 => ?_) (fun h4 => ?_)
  · refine r_aload_n 0 d_Van_way_25 rfl rfl ?_
    refine r_bipush d_Van_way_26 (by decide) ?_
    refine r_cVI 7 d_Van_way_28 lk_Van_74 vc_Van_refuse (ct_refuse (by omega)) rfl rfl rfl rfl ⟨Nat.le_of_ble_eq_true rfl, Nat.le_of_ble_eq_true rfl⟩ ⟨Nat.zero_le _, Nat.zero_le _⟩ (Nat.le_of_ble_eq_true rfl) (fun r28 s28 q28 => ?_)
    have q := q28
    refine q_iret d_Van_way_31 rfl ?_
    exact fin_no hI (by omega) hk VF.rf q (by unfold sp_way; (repeat (first | rw [if_pos (by omega)] | rw [if_neg (by omega)])); try rfl)
  · refine r_iload_n 2 d_Van_way_7 rfl rfl ?_
    refine r_cSI d_Van_way_8 lk_Van_70 sc_Van_isPlace (ct_isPlace (by omega)) rfl rfl ⟨Nat.le_of_ble_eq_true rfl, Nat.le_of_ble_eq_true rfl⟩ ⟨Nat.zero_le _, Nat.zero_le _⟩ (Nat.le_of_ble_eq_true rfl) (fun r8 s8 q8 => ?_)
    obtain ⟨q8, hs8⟩ := q8
    have hs8 := hs8.symm
    subst hs8
    refine r_if_eq 25 d_Van_way_11 rfl (by omega) (fun h11 => ?_) (fun h11 => ?_)
    · refine r_aload_n 0 d_Van_way_25 rfl rfl ?_
      refine r_bipush d_Van_way_26 (by decide) ?_
      refine r_cVI 7 d_Van_way_28 lk_Van_74 vc_Van_refuse (ct_refuse (by omega)) rfl rfl rfl rfl ⟨Nat.le_of_ble_eq_true rfl, Nat.le_of_ble_eq_true rfl⟩ ⟨Nat.zero_le _, Nat.zero_le _⟩ (Nat.le_of_ble_eq_true rfl) (fun r28 s28 q28 => ?_)
      have q := q28
      refine q_iret d_Van_way_31 rfl ?_
      exact fin_no hI (by omega) hk VF.rf q (by unfold sp_way; (repeat (first | rw [if_pos (by omega)] | rw [if_neg (by omega)])); try rfl)
    · refine r_iload_n 3 d_Van_way_14 rfl rfl ?_
      refine r_if_lt 25 d_Van_way_15 rfl (by omega) (fun h15 => ?_) (fun h15 => ?_)
      · refine r_aload_n 0 d_Van_way_25 rfl rfl ?_
        refine r_bipush d_Van_way_26 (by decide) ?_
        refine r_cVI 7 d_Van_way_28 lk_Van_74 vc_Van_refuse (ct_refuse (by omega)) rfl rfl rfl rfl ⟨Nat.le_of_ble_eq_true rfl, Nat.le_of_ble_eq_true rfl⟩ ⟨Nat.zero_le _, Nat.zero_le _⟩ (Nat.le_of_ble_eq_true rfl) (fun r28 s28 q28 => ?_)
        have q := q28
        refine q_iret d_Van_way_31 rfl ?_
        exact fin_no hI (by omega) hk VF.rf q (by unfold sp_way; (repeat (first | rw [if_pos (by omega)] | rw [if_neg (by omega)])); try rfl)
      · refine r_iload_n 3 d_Van_way_18 rfl rfl ?_
        refine r_sipush d_Van_way_19 (by decide) ?_
        refine r_icmp_lt 32 d_Van_way_22 rfl (by omega) (by omega) (fun h22 => ?_) (fun h22 => ?_)
        · refine r_aload_n 0 d_Van_way_32 rfl rfl ?_
          refine r_getR 3 d_Van_way_33 fk_Van_32 rfl rfl rfl (by decide) ?_
          refine r_iload_n 1 d_Van_way_36 rfl rfl ?_
          refine r_iload_n 2 d_Van_way_37 rfl rfl ?_
          refine r_iload_n 3 d_Van_way_38 rfl rfl ?_
          refine r_cVI 4 d_Van_way_39 lk_Van_110 vc_Town_comes (ct_comes k1.2.2.2.2 h1.2.2.2.2.2 hT (by omega) (by omega) (by omega) (by omega) (by omega) (by omega) (by omega)) rfl rfl rfl rfl ⟨Nat.le_of_ble_eq_true rfl, Nat.le_of_ble_eq_true rfl⟩ ⟨Nat.zero_le _, Nat.zero_le _⟩ (Nat.le_of_ble_eq_true rfl) (fun r39 s39 q39 => ?_)
          obtain ⟨e, hT2, hF2⟩ := q39
          have hw := way_in (D := g.D) (a := a) k1.2.2.2.2 (t := t) (b := b) (by omega) (by omega) (by omega) (by omega)
          rw [← e] at hw
          have hPF : PF σ s39 := fun c i q => hF2 c i (by omega) (by omega)
          refine r_istore 4 d_Van_way_42 (by decide) rfl ?_
          refine r_iload 4 d_Van_way_44 rfl ?_
          refine r_ldc kc_Van_113 d_Van_way_46 ?_
          refine r_icmp_lt 55 d_Van_way_48 rfl (by omega) (by omega) (fun h48 => ?_) (fun h48 => ?_)
          · refine r_iload 4 d_Van_way_55 rfl ?_
            refine q_iret d_Van_way_57 rfl ?_
            exact fin_ok (hI.keep hPF hT2) (by omega) hk hPF.vf (by rw [e] at *; unfold sp_way; (repeat (first | rw [if_pos (by omega)] | rw [if_neg (by omega)])); try rfl)
          · refine r_iconst d_Van_way_51 ?_
            refine r_goto 57 d_Van_way_52 rfl ?_
            refine q_iret d_Van_way_57 rfl ?_
            exact fin_ok (hI.keep hPF hT2) (by omega) hk hPF.vf (by rw [e] at *; unfold sp_way; (repeat (first | rw [if_pos (by omega)] | rw [if_neg (by omega)])); try rfl)
        · refine r_aload_n 0 d_Van_way_25 rfl rfl ?_
          refine r_bipush d_Van_way_26 (by decide) ?_
          refine r_cVI 7 d_Van_way_28 lk_Van_74 vc_Van_refuse (ct_refuse (by omega)) rfl rfl rfl rfl ⟨Nat.le_of_ble_eq_true rfl, Nat.le_of_ble_eq_true rfl⟩ ⟨Nat.zero_le _, Nat.zero_le _⟩ (Nat.le_of_ble_eq_true rfl) (fun r28 s28 q28 => ?_)
          have q := q28
          refine q_iret d_Van_way_31 rfl ?_
          exact fin_no hI (by omega) hk VF.rf q (by unfold sp_way; (repeat (first | rw [if_pos (by omega)] | rw [if_neg (by omega)])); try rfl)
theorem cv_look {σ : sto} {g : G} {B s what : Int} (hI : OI σ g B) (hB : B ≤ 3998) (hk : g.ok) (h_s : inR s) (h_what : inR what) : CI M_Van_look 14 [vR 0, vI s, vI what] σ (PV (sp_look g s what) σ B) := by
  obtain ⟨h1, hT, hQ, hU, h09, hrn, h010, hrf⟩ := id hI
  obtain ⟨k1, k2, k3, k4, k5, k6⟩ := id hk
  have hn := k1.1
  have hRV := k2.rv hn.1 hn.2.1
  refine ci_of [vR 0, vI s, vI what] fy_Van_look.1 rfl (Nat.le_of_ble_eq_true rfl) ?_
  refine r_aload_n 0 d_Van_look_0 rfl rfl ?_
  refine r_getR 9 d_Van_look_1 fk_Van_37 rfl rfl rfl (by decide) ?_
  refine r_iload_n 1 d_Van_look_4 rfl rfl ?_
  refine r_cVI 3 d_Van_look_5 lk_Van_114 vc_Stops_has (ct_hasS h1 k1 (by omega)) rfl rfl rfl rfl ⟨Nat.le_of_ble_eq_true rfl, Nat.le_of_ble_eq_true rfl⟩ ⟨Nat.zero_le _, Nat.zero_le _⟩ (Nat.le_of_ble_eq_true rfl) (fun r5 s5 q5 => ?_)
  obtain ⟨q5, hs5⟩ := q5
  have hs5 := hs5.symm
  subst hs5
  refine r_if_ne 18 d_Van_look_8 rfl (by omega) (fun h8 => ?_) (fun h8 => ?_)
  · have hat := h1.at (s := s) (by omega) (by omega)
    have hvo := vanOf_in g.P s
    have hpo := plcOf_in k2 hRV s
    have hds := k1.2.1 s (by omega) (by omega)
    refine r_iload_n 2 d_Van_look_18 rfl rfl ?_
    rcases (show what = 0 ∨ what = 1 ∨ what = 2 ∨ what = 3 ∨ what = 4 ∨ what = 5 ∨ what = 6 ∨ (what < 0 ∨ 6 < what) by omega) with t0 | t1 | t2 | t3 | t4 | t5 | t6 | tx
    · refine r_tableIn (off := 41) 60 d_Van_look_19 (by omega) (by omega) (by omega) (by rw [t0]; rfl) rfl ?_
      refine r_aload_n 0 d_Van_look_60 rfl rfl ?_
      refine r_getR 9 d_Van_look_61 fk_Van_37 rfl rfl rfl (by decide) ?_
      refine r_getR 10 d_Van_look_64 fk_Van_119 rfl rfl rfl (by decide) ?_
      refine r_iload_n 1 d_Van_look_67 rfl rfl ?_
      refine r_iald 12 d_Van_look_68 rfl rfl (by omega) (by omega) ?_
      rw [hat.1]
      refine q_iret d_Van_look_69 rfl ?_
      exact fin_ok hI (by omega) hk VF.rf (by unfold sp_look; (repeat (first | rw [if_pos (by omega)] | rw [if_neg (by omega)])); try rfl)
    · refine r_tableIn (off := 51) 70 d_Van_look_19 (by omega) (by omega) (by omega) (by rw [t1]; rfl) rfl ?_
      refine r_aload_n 0 d_Van_look_70 rfl rfl ?_
      refine r_getR 9 d_Van_look_71 fk_Van_37 rfl rfl rfl (by decide) ?_
      refine r_getR 11 d_Van_look_74 fk_Van_166 rfl rfl rfl (by decide) ?_
      refine r_iload_n 1 d_Van_look_77 rfl rfl ?_
      refine r_iald 12 d_Van_look_78 rfl rfl (by omega) (by omega) ?_
      rw [hat.2.1]
      refine q_iret d_Van_look_79 rfl ?_
      exact fin_ok hI (by omega) hk VF.rf (by unfold sp_look; (repeat (first | rw [if_pos (by omega)] | rw [if_neg (by omega)])); try rfl)
    · refine r_tableIn (off := 61) 80 d_Van_look_19 (by omega) (by omega) (by omega) (by rw [t2]; rfl) rfl ?_
      refine r_aload_n 0 d_Van_look_80 rfl rfl ?_
      refine r_getR 9 d_Van_look_81 fk_Van_37 rfl rfl rfl (by decide) ?_
      refine r_getR 15 d_Van_look_84 fk_Van_169 rfl rfl rfl (by decide) ?_
      refine r_iload_n 1 d_Van_look_87 rfl rfl ?_
      refine r_iald 12 d_Van_look_88 rfl rfl (by omega) (by omega) ?_
      rw [h1.am (s := s) (by omega) (by omega)]
      refine q_iret d_Van_look_89 rfl ?_
      exact fin_ok hI (by omega) hk VF.rf (by unfold sp_look; (repeat (first | rw [if_pos (by omega)] | rw [if_neg (by omega)])); try rfl)
    · refine r_tableIn (off := 71) 90 d_Van_look_19 (by omega) (by omega) (by omega) (by rw [t3]; rfl) rfl ?_
      refine r_aload_n 0 d_Van_look_90 rfl rfl ?_
      refine r_getR 9 d_Van_look_91 fk_Van_37 rfl rfl rfl (by decide) ?_
      refine r_getR 14 d_Van_look_94 fk_Van_172 rfl rfl rfl (by decide) ?_
      refine r_iload_n 1 d_Van_look_97 rfl rfl ?_
      refine r_iald 12 d_Van_look_98 rfl rfl (by omega) (by omega) ?_
      rw [hat.2.2.2.2.1]
      refine q_iret d_Van_look_99 rfl ?_
      exact fin_ok hI (by omega) hk VF.rf (by unfold sp_look; (repeat (first | rw [if_pos (by omega)] | rw [if_neg (by omega)])); try rfl)
    · refine r_tableIn (off := 81) 100 d_Van_look_19 (by omega) (by omega) (by omega) (by rw [t4]; rfl) rfl ?_
      refine r_aload_n 0 d_Van_look_100 rfl rfl ?_
      refine r_getR 9 d_Van_look_101 fk_Van_37 rfl rfl rfl (by decide) ?_
      refine r_getR 16 d_Van_look_104 fk_Van_122 rfl rfl rfl (by decide) ?_
      refine r_iload_n 1 d_Van_look_107 rfl rfl ?_
      refine r_iald 12 d_Van_look_108 rfl rfl (by omega) (by omega) ?_
      rw [hat.2.2.2.2.2.1]
      refine q_iret d_Van_look_109 rfl ?_
      exact fin_ok hI (by omega) hk VF.rf (by unfold sp_look; (repeat (first | rw [if_pos (by omega)] | rw [if_neg (by omega)])); try rfl)
    · refine r_tableIn (off := 91) 110 d_Van_look_19 (by omega) (by omega) (by omega) (by rw [t5]; rfl) rfl ?_
      refine r_aload_n 0 d_Van_look_110 rfl rfl ?_
      refine r_getR 39 d_Van_look_111 fk_Van_46 rfl rfl rfl (by decide) ?_
      refine r_iload_n 1 d_Van_look_114 rfl rfl ?_
      refine r_cVP 1 d_Van_look_115 lk_Van_125 vc_Plan_vanWith (ct_vanWith pl39 hQ (by omega)) rfl rfl rfl rfl ⟨Nat.le_of_ble_eq_true rfl, Nat.le_of_ble_eq_true rfl⟩ ⟨Nat.zero_le _, Nat.zero_le _⟩ (Nat.le_of_ble_eq_true rfl) ?_
      refine q_iret d_Van_look_118 rfl ?_
      exact fin_ok hI (by omega) hk VF.rf (by unfold sp_look; (repeat (first | rw [if_pos (by omega)] | rw [if_neg (by omega)])); try rfl)
    · refine r_tableIn (off := 100) 119 d_Van_look_19 (by omega) (by omega) (by omega) (by rw [t6]; rfl) rfl ?_
      refine r_aload_n 0 d_Van_look_119 rfl rfl ?_
      refine r_getR 39 d_Van_look_120 fk_Van_46 rfl rfl rfl (by decide) ?_
      refine r_iload_n 1 d_Van_look_123 rfl rfl ?_
      refine r_cVP 1 d_Van_look_124 lk_Van_175 vc_Plan_placeOf (ct_placeOf pl39 hQ (by omega)) rfl rfl rfl rfl ⟨Nat.le_of_ble_eq_true rfl, Nat.le_of_ble_eq_true rfl⟩ ⟨Nat.zero_le _, Nat.zero_le _⟩ (Nat.le_of_ble_eq_true rfl) ?_
      refine q_iret d_Van_look_127 rfl ?_
      exact fin_ok hI (by omega) hk VF.rf (by unfold sp_look; (repeat (first | rw [if_pos (by omega)] | rw [if_neg (by omega)])); try rfl)
    · refine r_tableOut 128 d_Van_look_19 (by omega) (by omega) rfl ?_
      refine r_aload_n 0 d_Van_look_128 rfl rfl ?_
      refine r_bipush d_Van_look_129 (by decide) ?_
      refine r_cVI 7 d_Van_look_131 lk_Van_74 vc_Van_refuse (ct_refuse (by omega)) rfl rfl rfl rfl ⟨Nat.le_of_ble_eq_true rfl, Nat.le_of_ble_eq_true rfl⟩ ⟨Nat.zero_le _, Nat.zero_le _⟩ (Nat.le_of_ble_eq_true rfl) (fun r131 s131 q131 => ?_)
      have q := q131
      refine q_iret d_Van_look_134 rfl ?_
      exact fin_no hI (by omega) hk VF.rf q (by unfold sp_look; (repeat (first | rw [if_pos (by omega)] | rw [if_neg (by omega)])); try rfl)
  · refine r_aload_n 0 d_Van_look_11 rfl rfl ?_
    refine r_bipush d_Van_look_12 (by decide) ?_
    refine r_cVI 7 d_Van_look_14 lk_Van_74 vc_Van_refuse (ct_refuse (by omega)) rfl rfl rfl rfl ⟨Nat.le_of_ble_eq_true rfl, Nat.le_of_ble_eq_true rfl⟩ ⟨Nat.zero_le _, Nat.zero_le _⟩ (Nat.le_of_ble_eq_true rfl) (fun r14 s14 q14 => ?_)
    have q := q14
    refine q_iret d_Van_look_17 rfl ?_
    exact fin_no hI (by omega) hk VF.rf q (by unfold sp_look; (repeat (first | rw [if_pos (by omega)] | rw [if_neg (by omega)])); try rfl)
theorem cv_round {σ : sto} {g : G} {B v i : Int} (hI : OI σ g B) (hB : B ≤ 3998) (hk : g.ok) (h_v : inR v) (h_i : inR i) : CI M_Van_round 14 [vR 0, vI v, vI i] σ (PV (sp_round g v i) σ B) := by
  obtain ⟨h1, hT, hQ, hU, h09, hrn, h010, hrf⟩ := id hI
  obtain ⟨k1, k2, k3, k4, k5, k6⟩ := id hk
  have hn := k1.1
  have hRV := k2.rv hn.1 hn.2.1
  refine ci_of [vR 0, vI v, vI i] fy_Van_round.1 rfl (Nat.le_of_ble_eq_true rfl) ?_
  refine r_aload_n 0 d_Van_round_0 rfl rfl ?_
  refine r_getR 18 d_Van_round_1 fk_Van_42 rfl rfl rfl (by decide) ?_
  refine r_iload_n 1 d_Van_round_4 rfl rfl ?_
  refine r_cVI 6 d_Van_round_5 lk_Van_163 vc_Vans_has (ct_hasV h1 k1 (by omega)) rfl rfl rfl rfl ⟨Nat.le_of_ble_eq_true rfl, Nat.le_of_ble_eq_true rfl⟩ ⟨Nat.zero_le _, Nat.zero_le _⟩ (Nat.le_of_ble_eq_true rfl) (fun r5 s5 q5 => ?_)
  obtain ⟨q5, hs5⟩ := q5
  have hs5 := hs5.symm
  subst hs5
  refine r_if_ne 18 d_Van_round_8 rfl (by omega) (fun h8 => ?_) (fun h8 => ?_)
  · have hz := hQ.len (v := v) (by omega) (by omega)
    rw [show (39 : Int) + 5 = 44 from rfl] at hz
    refine r_iload_n 2 d_Van_round_18 rfl rfl ?_
    refine r_iconst d_Van_round_19 ?_
    refine r_icmp_ne 33 d_Van_round_20 rfl (by omega) (by omega) (fun h20 => ?_) (fun h20 => ?_)
    · refine r_iload_n 2 d_Van_round_33 rfl rfl ?_
      refine r_if_lt 50 d_Van_round_34 rfl (by omega) (fun h34 => ?_) (fun h34 => ?_)
      · refine r_aload_n 0 d_Van_round_50 rfl rfl ?_
        refine r_bipush d_Van_round_51 (by decide) ?_
        refine r_cVI 7 d_Van_round_53 lk_Van_74 vc_Van_refuse (ct_refuse (by omega)) rfl rfl rfl rfl ⟨Nat.le_of_ble_eq_true rfl, Nat.le_of_ble_eq_true rfl⟩ ⟨Nat.zero_le _, Nat.zero_le _⟩ (Nat.le_of_ble_eq_true rfl) (fun r53 s53 q53 => ?_)
        have q := q53
        refine q_iret d_Van_round_56 rfl ?_
        exact fin_no hI (by omega) hk VF.rf q (by unfold sp_round; (repeat (first | rw [if_pos (by omega)] | rw [if_neg (by omega)])); try rfl)
      · refine r_iload_n 2 d_Van_round_37 rfl rfl ?_
        refine r_aload_n 0 d_Van_round_38 rfl rfl ?_
        refine r_getR 39 d_Van_round_39 fk_Van_46 rfl rfl rfl (by decide) ?_
        refine r_getR 44 d_Van_round_42 fk_Van_178 rfl rfl rfl (by decide) ?_
        refine r_iload_n 1 d_Van_round_45 rfl rfl ?_
        refine r_iald 3 d_Van_round_46 rfl rfl (by omega) (by omega) ?_
        rw [hz.1]
        refine r_icmp_lt 57 d_Van_round_47 rfl (by omega) (by omega) (fun h47 => ?_) (fun h47 => ?_)
        · have he := hQ.el (v := v) (i := i) (by omega) (by omega) (by omega) (by omega)
          refine r_aload_n 0 d_Van_round_57 rfl rfl ?_
          refine r_getR 39 d_Van_round_58 fk_Van_46 rfl rfl rfl (by decide) ?_
          refine r_getR (39 + 1) d_Van_round_61 fk_Van_181 rfl rfl (lay_p0 pl39) (by decide) ?_
          refine r_iload_n 1 d_Van_round_64 rfl rfl ?_
          refine r_aald 3 _ d_Van_round_65 (Or.inr (kd_pr pl39)) (al_pr pl39) (by omega) (by omega) (lay_pr pl39 (by omega) (by omega)) (by omega) ?_
          refine r_iload_n 2 d_Van_round_66 rfl rfl ?_
          refine r_iald 12 d_Van_round_67 (kd_pw pl39 (by omega) (by omega)) (al_pw pl39 (by omega) (by omega)) (by omega) (by omega) ?_
          rw [he.1]
          refine q_iret d_Van_round_68 rfl ?_
          exact fin_ok hI (by omega) hk VF.rf (by unfold sp_round; (repeat (first | rw [if_pos (by omega)] | rw [if_neg (by omega)])); try rfl)
        · refine r_aload_n 0 d_Van_round_50 rfl rfl ?_
          refine r_bipush d_Van_round_51 (by decide) ?_
          refine r_cVI 7 d_Van_round_53 lk_Van_74 vc_Van_refuse (ct_refuse (by omega)) rfl rfl rfl rfl ⟨Nat.le_of_ble_eq_true rfl, Nat.le_of_ble_eq_true rfl⟩ ⟨Nat.zero_le _, Nat.zero_le _⟩ (Nat.le_of_ble_eq_true rfl) (fun r53 s53 q53 => ?_)
          have q := q53
          refine q_iret d_Van_round_56 rfl ?_
          exact fin_no hI (by omega) hk VF.rf q (by unfold sp_round; (repeat (first | rw [if_pos (by omega)] | rw [if_neg (by omega)])); try rfl)
    · refine r_aload_n 0 d_Van_round_23 rfl rfl ?_
      refine r_getR 39 d_Van_round_24 fk_Van_46 rfl rfl rfl (by decide) ?_
      refine r_getR 44 d_Van_round_27 fk_Van_178 rfl rfl rfl (by decide) ?_
      refine r_iload_n 1 d_Van_round_30 rfl rfl ?_
      refine r_iald 3 d_Van_round_31 rfl rfl (by omega) (by omega) ?_
      rw [hz.1]
      refine q_iret d_Van_round_32 rfl ?_
      exact fin_ok hI (by omega) hk VF.rf (by unfold sp_round; (repeat (first | rw [if_pos (by omega)] | rw [if_neg (by omega)])); try rfl)
  · refine r_aload_n 0 d_Van_round_11 rfl rfl ?_
    refine r_bipush d_Van_round_12 (by decide) ?_
    refine r_cVI 7 d_Van_round_14 lk_Van_74 vc_Van_refuse (ct_refuse (by omega)) rfl rfl rfl rfl ⟨Nat.le_of_ble_eq_true rfl, Nat.le_of_ble_eq_true rfl⟩ ⟨Nat.zero_le _, Nat.zero_le _⟩ (Nat.le_of_ble_eq_true rfl) (fun r14 s14 q14 => ?_)
    have q := q14
    refine q_iret d_Van_round_17 rfl ?_
    exact fin_no hI (by omega) hk VF.rf q (by unfold sp_round; (repeat (first | rw [if_pos (by omega)] | rw [if_neg (by omega)])); try rfl)
theorem cv_when {σ : sto} {g : G} {B v i what : Int} (hI : OI σ g B) (hB : B ≤ 3998) (hk : g.ok) (h_v : inR v) (h_i : inR i) (h_what : inR what) : CI M_Van_when 14 [vR 0, vI v, vI i, vI what] σ (PV (sp_when g v i what) σ B) := by
  obtain ⟨h1, hT, hQ, hU, h09, hrn, h010, hrf⟩ := id hI
  obtain ⟨k1, k2, k3, k4, k5, k6⟩ := id hk
  have hn := k1.1
  have hRV := k2.rv hn.1 hn.2.1
  refine ci_of [vR 0, vI v, vI i, vI what, vU] fy_Van_when.1 rfl (Nat.le_of_ble_eq_true rfl) ?_
  refine r_aload_n 0 d_Van_when_0 rfl rfl ?_
  refine r_getR 18 d_Van_when_1 fk_Van_42 rfl rfl rfl (by decide) ?_
  refine r_iload_n 1 d_Van_when_4 rfl rfl ?_
  refine r_cVI 6 d_Van_when_5 lk_Van_163 vc_Vans_has (ct_hasV h1 k1 (by omega)) rfl rfl rfl rfl ⟨Nat.le_of_ble_eq_true rfl, Nat.le_of_ble_eq_true rfl⟩ ⟨Nat.zero_le _, Nat.zero_le _⟩ (Nat.le_of_ble_eq_true rfl) (fun r5 s5 q5 => ?_)
  obtain ⟨q5, hs5⟩ := q5
  have hs5 := hs5.symm
  subst hs5
  refine r_if_ne 18 d_Van_when_8 rfl (by omega) (fun h8 => ?_) (fun h8 => ?_)
  · have hz := hQ.len (v := v) (by omega) (by omega)
    rw [show (39 : Int) + 5 = 44 from rfl] at hz
    refine r_aload_n 0 d_Van_when_18 rfl rfl ?_
    refine r_getR 39 d_Van_when_19 fk_Van_46 rfl rfl rfl (by decide) ?_
    refine r_getR 44 d_Van_when_22 fk_Van_178 rfl rfl rfl (by decide) ?_
    refine r_iload_n 1 d_Van_when_25 rfl rfl ?_
    refine r_iald 3 d_Van_when_26 rfl rfl (by omega) (by omega) ?_
    rw [hz.1]
    refine r_istore 4 d_Van_when_27 (by decide) rfl ?_
    refine r_iload_n 2 d_Van_when_29 rfl rfl ?_
    refine r_if_lt 44 d_Van_when_30 rfl (by omega) (fun h30 => ?_) (fun h30 => ?_)
    · refine r_aload_n 0 d_Van_when_44 rfl rfl ?_
      refine r_bipush d_Van_when_45 (by decide) ?_
      refine r_cVI 7 d_Van_when_47 lk_Van_74 vc_Van_refuse (ct_refuse (by omega)) rfl rfl rfl rfl ⟨Nat.le_of_ble_eq_true rfl, Nat.le_of_ble_eq_true rfl⟩ ⟨Nat.zero_le _, Nat.zero_le _⟩ (Nat.le_of_ble_eq_true rfl) (fun r47 s47 q47 => ?_)
      have q := q47
      refine q_iret d_Van_when_50 rfl ?_
      exact fin_no hI (by omega) hk VF.rf q (by unfold sp_when; (repeat (first | rw [if_pos (by omega)] | rw [if_neg (by omega)])); try rfl)
    · refine r_iload_n 2 d_Van_when_33 rfl rfl ?_
      refine r_iload 4 d_Van_when_34 rfl ?_
      refine r_icmp_gt 44 d_Van_when_36 rfl (by omega) (by omega) (fun h36 => ?_) (fun h36 => ?_)
      · refine r_aload_n 0 d_Van_when_44 rfl rfl ?_
        refine r_bipush d_Van_when_45 (by decide) ?_
        refine r_cVI 7 d_Van_when_47 lk_Van_74 vc_Van_refuse (ct_refuse (by omega)) rfl rfl rfl rfl ⟨Nat.le_of_ble_eq_true rfl, Nat.le_of_ble_eq_true rfl⟩ ⟨Nat.zero_le _, Nat.zero_le _⟩ (Nat.le_of_ble_eq_true rfl) (fun r47 s47 q47 => ?_)
        have q := q47
        refine q_iret d_Van_when_50 rfl ?_
        exact fin_no hI (by omega) hk VF.rf q (by unfold sp_when; (repeat (first | rw [if_pos (by omega)] | rw [if_neg (by omega)])); try rfl)
      · refine r_iload 4 d_Van_when_39 rfl ?_
        refine r_if_ne 51 d_Van_when_41 rfl (by omega) (fun h41 => ?_) (fun h41 => ?_)
        · refine r_iload_n 3 d_Van_when_51 rfl rfl ?_
          refine r_if_lt 70 d_Van_when_52 rfl (by omega) (fun h52 => ?_) (fun h52 => ?_)
          · refine r_aload_n 0 d_Van_when_70 rfl rfl ?_
            refine r_bipush d_Van_when_71 (by decide) ?_
            refine r_cVI 7 d_Van_when_73 lk_Van_74 vc_Van_refuse (ct_refuse (by omega)) rfl rfl rfl rfl ⟨Nat.le_of_ble_eq_true rfl, Nat.le_of_ble_eq_true rfl⟩ ⟨Nat.zero_le _, Nat.zero_le _⟩ (Nat.le_of_ble_eq_true rfl) (fun r73 s73 q73 => ?_)
            have q := q73
            refine q_iret d_Van_when_76 rfl ?_
            exact fin_no hI (by omega) hk VF.rf q (by unfold sp_when; (repeat (first | rw [if_pos (by omega)] | rw [if_neg (by omega)])); try rfl)
          · refine r_iload_n 3 d_Van_when_55 rfl rfl ?_
            refine r_iconst d_Van_when_56 ?_
            refine r_icmp_gt 70 d_Van_when_57 rfl (by omega) (by omega) (fun h57 => ?_) (fun h57 => ?_)
            · refine r_aload_n 0 d_Van_when_70 rfl rfl ?_
              refine r_bipush d_Van_when_71 (by decide) ?_
              refine r_cVI 7 d_Van_when_73 lk_Van_74 vc_Van_refuse (ct_refuse (by omega)) rfl rfl rfl rfl ⟨Nat.le_of_ble_eq_true rfl, Nat.le_of_ble_eq_true rfl⟩ ⟨Nat.zero_le _, Nat.zero_le _⟩ (Nat.le_of_ble_eq_true rfl) (fun r73 s73 q73 => ?_)
              have q := q73
              refine q_iret d_Van_when_76 rfl ?_
              exact fin_no hI (by omega) hk VF.rf q (by unfold sp_when; (repeat (first | rw [if_pos (by omega)] | rw [if_neg (by omega)])); try rfl)
            · refine r_iload_n 2 d_Van_when_60 rfl rfl ?_
              refine r_iload 4 d_Van_when_61 rfl ?_
              refine r_icmp_ne 77 d_Van_when_63 rfl (by omega) (by omega) (fun h63 => ?_) (fun h63 => ?_)
              · refine r_aload_n 0 d_Van_when_77 rfl rfl ?_
                refine r_getR 2 d_Van_when_78 fk_Van_25 rfl rfl rfl (by decide) ?_
                refine r_aload_n 0 d_Van_when_81 rfl rfl ?_
                refine r_getR 39 d_Van_when_82 fk_Van_46 rfl rfl rfl (by decide) ?_
                refine r_iload_n 1 d_Van_when_85 rfl rfl ?_
                refine r_cVI 5 d_Van_when_86 lk_Van_185 vc_Trip_judge (ct_judge h1 k1 hT (by omega) pl39 hQ (by omega) (by omega) (hRV v (by omega) (by omega))) rfl rfl rfl rfl ⟨Nat.le_of_ble_eq_true rfl, Nat.le_of_ble_eq_true rfl⟩ ⟨Nat.zero_le _, Nat.zero_le _⟩ (Nat.le_of_ble_eq_true rfl) (fun r86 s86 q86 => ?_)
                obtain ⟨e7, ew, hT2, hJ, hN⟩ := q86
                have hN := hN (by rw [e7]; exact k3 v (by omega) (by omega))
                have hI2 := hI.keep hJ.pf hT2
                refine r_pop d_Van_when_89 rfl ?_
                refine r_iload_n 2 d_Van_when_90 rfl rfl ?_
                refine r_iload 4 d_Van_when_91 rfl ?_
                refine r_icmp_ne 104 d_Van_when_93 rfl (by omega) (by omega) (fun h93 => ?_) (fun h93 => ?_)
                · have hN := hN.2.2.2 (by omega)
                  have hNi := hN.2 i (by omega) (by omega)
                  refine r_iload_n 3 d_Van_when_104 rfl rfl ?_
                  refine r_if_ne 118 d_Van_when_105 rfl (by omega) (fun h105 => ?_) (fun h105 => ?_)
                  · refine r_iload_n 3 d_Van_when_118 rfl rfl ?_
                    refine r_iconst d_Van_when_119 ?_
                    refine r_icmp_ne 133 d_Van_when_120 rfl (by omega) (by omega) (fun h120 => ?_) (fun h120 => ?_)
                    · refine r_iload_n 3 d_Van_when_133 rfl rfl ?_
                      refine r_iconst d_Van_when_134 ?_
                      refine r_icmp_ne 150 d_Van_when_135 rfl (by omega) (by omega) (fun h135 => ?_) (fun h135 => ?_)
                      · refine r_aload_n 0 d_Van_when_150 rfl rfl ?_
                        refine r_getR 2 d_Van_when_151 fk_Van_25 rfl rfl rfl (by decide) ?_
                        refine r_getR 26 d_Van_when_154 fk_Van_201 rfl rfl rfl (by decide) ?_
                        refine r_iload_n 2 d_Van_when_157 rfl rfl ?_
                        refine r_iald 12 d_Van_when_158 rfl rfl (by omega) (by omega) ?_
                        rw [hNi.2.2.2]
                        refine q_iret d_Van_when_159 rfl ?_
                        exact fin_ok hI2 (by omega) hk hJ.vf (by first | (exfalso; omega) | (unfold sp_when; (repeat (first | rw [if_pos (by omega)] | rw [if_neg (by omega)])); try rfl))
                      · refine r_aload_n 0 d_Van_when_138 rfl rfl ?_
                        refine r_getR 2 d_Van_when_139 fk_Van_25 rfl rfl rfl (by decide) ?_
                        refine r_getR 25 d_Van_when_142 fk_Van_198 rfl rfl rfl (by decide) ?_
                        refine r_iload_n 2 d_Van_when_145 rfl rfl ?_
                        refine r_iald 12 d_Van_when_146 rfl rfl (by omega) (by omega) ?_
                        rw [hNi.2.2.1]
                        refine r_goto 159 d_Van_when_147 rfl ?_
                        refine q_iret d_Van_when_159 rfl ?_
                        exact fin_ok hI2 (by omega) hk hJ.vf (by first | (exfalso; omega) | (unfold sp_when; (repeat (first | rw [if_pos (by omega)] | rw [if_neg (by omega)])); try rfl))
                    · refine r_aload_n 0 d_Van_when_123 rfl rfl ?_
                      refine r_getR 2 d_Van_when_124 fk_Van_25 rfl rfl rfl (by decide) ?_
                      refine r_getR 24 d_Van_when_127 fk_Van_195 rfl rfl rfl (by decide) ?_
                      refine r_iload_n 2 d_Van_when_130 rfl rfl ?_
                      refine r_iald 12 d_Van_when_131 rfl rfl (by omega) (by omega) ?_
                      rw [hNi.2.1]
                      refine q_iret d_Van_when_132 rfl ?_
                      exact fin_ok hI2 (by omega) hk hJ.vf (by first | (exfalso; omega) | (unfold sp_when; (repeat (first | rw [if_pos (by omega)] | rw [if_neg (by omega)])); try rfl))
                  · refine r_aload_n 0 d_Van_when_108 rfl rfl ?_
                    refine r_getR 2 d_Van_when_109 fk_Van_25 rfl rfl rfl (by decide) ?_
                    refine r_getR 23 d_Van_when_112 fk_Van_192 rfl rfl rfl (by decide) ?_
                    refine r_iload_n 2 d_Van_when_115 rfl rfl ?_
                    refine r_iald 12 d_Van_when_116 rfl rfl (by omega) (by omega) ?_
                    rw [hNi.1]
                    refine q_iret d_Van_when_117 rfl ?_
                    exact fin_ok hI2 (by omega) hk hJ.vf (by first | (exfalso; omega) | (unfold sp_when; (repeat (first | rw [if_pos (by omega)] | rw [if_neg (by omega)])); try rfl))
                · have hN := hN.2.2.2 (by omega)
                  refine r_aload_n 0 d_Van_when_96 rfl rfl ?_
                  refine r_getR 2 d_Van_when_97 fk_Van_25 rfl rfl rfl (by decide) ?_
                  refine r_getI 7 d_Van_when_100 fk_Van_189 rfl rfl rfl ?_
                  rw [hN.1]
                  refine q_iret d_Van_when_103 rfl ?_
                  exact fin_ok hI2 (by omega) hk hJ.vf (by first | (exfalso; omega) | (unfold sp_when; (repeat (first | rw [if_pos (by omega)] | rw [if_neg (by omega)])); try rfl))
              · refine r_iload_n 3 d_Van_when_66 rfl rfl ?_
                refine r_if_eq 77 d_Van_when_67 rfl (by omega) (fun h67 => ?_) (fun h67 => ?_)
                · refine r_aload_n 0 d_Van_when_77 rfl rfl ?_
                  refine r_getR 2 d_Van_when_78 fk_Van_25 rfl rfl rfl (by decide) ?_
                  refine r_aload_n 0 d_Van_when_81 rfl rfl ?_
                  refine r_getR 39 d_Van_when_82 fk_Van_46 rfl rfl rfl (by decide) ?_
                  refine r_iload_n 1 d_Van_when_85 rfl rfl ?_
                  refine r_cVI 5 d_Van_when_86 lk_Van_185 vc_Trip_judge (ct_judge h1 k1 hT (by omega) pl39 hQ (by omega) (by omega) (hRV v (by omega) (by omega))) rfl rfl rfl rfl ⟨Nat.le_of_ble_eq_true rfl, Nat.le_of_ble_eq_true rfl⟩ ⟨Nat.zero_le _, Nat.zero_le _⟩ (Nat.le_of_ble_eq_true rfl) (fun r86 s86 q86 => ?_)
                  obtain ⟨e7, ew, hT2, hJ, hN⟩ := q86
                  have hN := hN (by rw [e7]; exact k3 v (by omega) (by omega))
                  have hI2 := hI.keep hJ.pf hT2
                  refine r_pop d_Van_when_89 rfl ?_
                  refine r_iload_n 2 d_Van_when_90 rfl rfl ?_
                  refine r_iload 4 d_Van_when_91 rfl ?_
                  refine r_icmp_ne 104 d_Van_when_93 rfl (by omega) (by omega) (fun h93 => ?_) (fun h93 => ?_)
                  · have hN := hN.2.2.2 (by omega)
                    have hNi := hN.2 i (by omega) (by omega)
                    refine r_iload_n 3 d_Van_when_104 rfl rfl ?_
                    refine r_if_ne 118 d_Van_when_105 rfl (by omega) (fun h105 => ?_) (fun h105 => ?_)
                    · refine r_iload_n 3 d_Van_when_118 rfl rfl ?_
                      refine r_iconst d_Van_when_119 ?_
                      refine r_icmp_ne 133 d_Van_when_120 rfl (by omega) (by omega) (fun h120 => ?_) (fun h120 => ?_)
                      · refine r_iload_n 3 d_Van_when_133 rfl rfl ?_
                        refine r_iconst d_Van_when_134 ?_
                        refine r_icmp_ne 150 d_Van_when_135 rfl (by omega) (by omega) (fun h135 => ?_) (fun h135 => ?_)
                        · refine r_aload_n 0 d_Van_when_150 rfl rfl ?_
                          refine r_getR 2 d_Van_when_151 fk_Van_25 rfl rfl rfl (by decide) ?_
                          refine r_getR 26 d_Van_when_154 fk_Van_201 rfl rfl rfl (by decide) ?_
                          refine r_iload_n 2 d_Van_when_157 rfl rfl ?_
                          refine r_iald 12 d_Van_when_158 rfl rfl (by omega) (by omega) ?_
                          rw [hNi.2.2.2]
                          refine q_iret d_Van_when_159 rfl ?_
                          exact fin_ok hI2 (by omega) hk hJ.vf (by first | (exfalso; omega) | (unfold sp_when; (repeat (first | rw [if_pos (by omega)] | rw [if_neg (by omega)])); try rfl))
                        · refine r_aload_n 0 d_Van_when_138 rfl rfl ?_
                          refine r_getR 2 d_Van_when_139 fk_Van_25 rfl rfl rfl (by decide) ?_
                          refine r_getR 25 d_Van_when_142 fk_Van_198 rfl rfl rfl (by decide) ?_
                          refine r_iload_n 2 d_Van_when_145 rfl rfl ?_
                          refine r_iald 12 d_Van_when_146 rfl rfl (by omega) (by omega) ?_
                          rw [hNi.2.2.1]
                          refine r_goto 159 d_Van_when_147 rfl ?_
                          refine q_iret d_Van_when_159 rfl ?_
                          exact fin_ok hI2 (by omega) hk hJ.vf (by first | (exfalso; omega) | (unfold sp_when; (repeat (first | rw [if_pos (by omega)] | rw [if_neg (by omega)])); try rfl))
                      · refine r_aload_n 0 d_Van_when_123 rfl rfl ?_
                        refine r_getR 2 d_Van_when_124 fk_Van_25 rfl rfl rfl (by decide) ?_
                        refine r_getR 24 d_Van_when_127 fk_Van_195 rfl rfl rfl (by decide) ?_
                        refine r_iload_n 2 d_Van_when_130 rfl rfl ?_
                        refine r_iald 12 d_Van_when_131 rfl rfl (by omega) (by omega) ?_
                        rw [hNi.2.1]
                        refine q_iret d_Van_when_132 rfl ?_
                        exact fin_ok hI2 (by omega) hk hJ.vf (by first | (exfalso; omega) | (unfold sp_when; (repeat (first | rw [if_pos (by omega)] | rw [if_neg (by omega)])); try rfl))
                    · refine r_aload_n 0 d_Van_when_108 rfl rfl ?_
                      refine r_getR 2 d_Van_when_109 fk_Van_25 rfl rfl rfl (by decide) ?_
                      refine r_getR 23 d_Van_when_112 fk_Van_192 rfl rfl rfl (by decide) ?_
                      refine r_iload_n 2 d_Van_when_115 rfl rfl ?_
                      refine r_iald 12 d_Van_when_116 rfl rfl (by omega) (by omega) ?_
                      rw [hNi.1]
                      refine q_iret d_Van_when_117 rfl ?_
                      exact fin_ok hI2 (by omega) hk hJ.vf (by first | (exfalso; omega) | (unfold sp_when; (repeat (first | rw [if_pos (by omega)] | rw [if_neg (by omega)])); try rfl))
                  · have hN := hN.2.2.2 (by omega)
                    refine r_aload_n 0 d_Van_when_96 rfl rfl ?_
                    refine r_getR 2 d_Van_when_97 fk_Van_25 rfl rfl rfl (by decide) ?_
                    refine r_getI 7 d_Van_when_100 fk_Van_189 rfl rfl rfl ?_
                    rw [hN.1]
                    refine q_iret d_Van_when_103 rfl ?_
                    exact fin_ok hI2 (by omega) hk hJ.vf (by first | (exfalso; omega) | (unfold sp_when; (repeat (first | rw [if_pos (by omega)] | rw [if_neg (by omega)])); try rfl))
                · refine r_aload_n 0 d_Van_when_70 rfl rfl ?_
                  refine r_bipush d_Van_when_71 (by decide) ?_
                  refine r_cVI 7 d_Van_when_73 lk_Van_74 vc_Van_refuse (ct_refuse (by omega)) rfl rfl rfl rfl ⟨Nat.le_of_ble_eq_true rfl, Nat.le_of_ble_eq_true rfl⟩ ⟨Nat.zero_le _, Nat.zero_le _⟩ (Nat.le_of_ble_eq_true rfl) (fun r73 s73 q73 => ?_)
                  have q := q73
                  refine q_iret d_Van_when_76 rfl ?_
                  exact fin_no hI (by omega) hk VF.rf q (by unfold sp_when; (repeat (first | rw [if_pos (by omega)] | rw [if_neg (by omega)])); try rfl)
        · refine r_aload_n 0 d_Van_when_44 rfl rfl ?_
          refine r_bipush d_Van_when_45 (by decide) ?_
          refine r_cVI 7 d_Van_when_47 lk_Van_74 vc_Van_refuse (ct_refuse (by omega)) rfl rfl rfl rfl ⟨Nat.le_of_ble_eq_true rfl, Nat.le_of_ble_eq_true rfl⟩ ⟨Nat.zero_le _, Nat.zero_le _⟩ (Nat.le_of_ble_eq_true rfl) (fun r47 s47 q47 => ?_)
          have q := q47
          refine q_iret d_Van_when_50 rfl ?_
          exact fin_no hI (by omega) hk VF.rf q (by unfold sp_when; (repeat (first | rw [if_pos (by omega)] | rw [if_neg (by omega)])); try rfl)
  · refine r_aload_n 0 d_Van_when_11 rfl rfl ?_
    refine r_bipush d_Van_when_12 (by decide) ?_
    refine r_cVI 7 d_Van_when_14 lk_Van_74 vc_Van_refuse (ct_refuse (by omega)) rfl rfl rfl rfl ⟨Nat.le_of_ble_eq_true rfl, Nat.le_of_ble_eq_true rfl⟩ ⟨Nat.zero_le _, Nat.zero_le _⟩ (Nat.le_of_ble_eq_true rfl) (fun r14 s14 q14 => ?_)
    have q := q14
    refine q_iret d_Van_when_17 rfl ?_
    exact fin_no hI (by omega) hk VF.rf q (by unfold sp_when; (repeat (first | rw [if_pos (by omega)] | rw [if_neg (by omega)])); try rfl)
theorem cv_cost {σ : sto} {g : G} {B v : Int} (hI : OI σ g B) (hB : B ≤ 3998) (hk : g.ok) (h_v : inR v) : CI M_Van_cost 14 [vR 0, vI v] σ (PV (sp_cost g v) σ B) := by
  obtain ⟨h1, hT, hQ, hU, h09, hrn, h010, hrf⟩ := id hI
  obtain ⟨k1, k2, k3, k4, k5, k6⟩ := id hk
  have hn := k1.1
  have hRV := k2.rv hn.1 hn.2.1
  refine ci_of [vR 0, vI v] fy_Van_cost.1 rfl (Nat.le_of_ble_eq_true rfl) ?_
  refine r_iload_n 1 d_Van_cost_0 rfl rfl ?_
  refine r_iconst d_Van_cost_1 ?_
  refine r_icmp_ne 17 d_Van_cost_2 rfl (by omega) (by omega) (fun h2 => ?_) (fun h2 => ?_)
  · refine r_aload_n 0 d_Van_cost_17 rfl rfl ?_
    refine r_getR 18 d_Van_cost_18 fk_Van_42 rfl rfl rfl (by decide) ?_
    refine r_iload_n 1 d_Van_cost_21 rfl rfl ?_
    refine r_cVI 6 d_Van_cost_22 lk_Van_163 vc_Vans_has (ct_hasV h1 k1 (by omega)) rfl rfl rfl rfl ⟨Nat.le_of_ble_eq_true rfl, Nat.le_of_ble_eq_true rfl⟩ ⟨Nat.zero_le _, Nat.zero_le _⟩ (Nat.le_of_ble_eq_true rfl) (fun r22 s22 q22 => ?_)
    obtain ⟨q22, hs22⟩ := q22
    have hs22 := hs22.symm
    subst hs22
    refine r_if_ne 35 d_Van_cost_25 rfl (by omega) (fun h25 => ?_) (fun h25 => ?_)
    · refine r_aload_n 0 d_Van_cost_35 rfl rfl ?_
      refine r_getR 2 d_Van_cost_36 fk_Van_25 rfl rfl rfl (by decide) ?_
      refine r_aload_n 0 d_Van_cost_39 rfl rfl ?_
      refine r_getR 39 d_Van_cost_40 fk_Van_46 rfl rfl rfl (by decide) ?_
      refine r_iload_n 1 d_Van_cost_43 rfl rfl ?_
      refine r_cVI 5 d_Van_cost_44 lk_Van_185 vc_Trip_judge (ct_judge h1 k1 hT (by omega) pl39 hQ (by omega) (by omega) (hRV v (by omega) (by omega))) rfl rfl rfl rfl ⟨Nat.le_of_ble_eq_true rfl, Nat.le_of_ble_eq_true rfl⟩ ⟨Nat.zero_le _, Nat.zero_le _⟩ (Nat.le_of_ble_eq_true rfl) (fun r44 s44 q44 => ?_)
      obtain ⟨e7, ew, hT2, hJ, hN⟩ := q44
      have hN := hN (by rw [e7]; exact k3 v (by omega) (by omega))
      have hI2 := hI.keep hJ.pf hT2
      refine r_pop d_Van_cost_47 rfl ?_
      refine r_aload_n 0 d_Van_cost_48 rfl rfl ?_
      refine r_getR 2 d_Van_cost_49 fk_Van_25 rfl rfl rfl (by decide) ?_
      refine r_getI 9 d_Van_cost_52 fk_Van_204 rfl rfl rfl ?_
      rw [hN.1]
      refine q_iret d_Van_cost_55 rfl ?_
      exact fin_ok hI2 (by omega) hk hJ.vf (by unfold sp_cost; (repeat (first | rw [if_pos (by omega)] | rw [if_neg (by omega)])); try rfl)
    · refine r_aload_n 0 d_Van_cost_28 rfl rfl ?_
      refine r_bipush d_Van_cost_29 (by decide) ?_
      refine r_cVI 7 d_Van_cost_31 lk_Van_74 vc_Van_refuse (ct_refuse (by omega)) rfl rfl rfl rfl ⟨Nat.le_of_ble_eq_true rfl, Nat.le_of_ble_eq_true rfl⟩ ⟨Nat.zero_le _, Nat.zero_le _⟩ (Nat.le_of_ble_eq_true rfl) (fun r31 s31 q31 => ?_)
      have q := q31
      refine q_iret d_Van_cost_34 rfl ?_
      exact fin_no hI (by omega) hk VF.rf q (by unfold sp_cost; (repeat (first | rw [if_pos (by omega)] | rw [if_neg (by omega)])); try rfl)
  · refine r_aload_n 0 d_Van_cost_5 rfl rfl ?_
    refine r_getR 2 d_Van_cost_6 fk_Van_25 rfl rfl rfl (by decide) ?_
    refine r_aload_n 0 d_Van_cost_9 rfl rfl ?_
    refine r_getR 39 d_Van_cost_10 fk_Van_46 rfl rfl rfl (by decide) ?_
    refine r_cVI 5 d_Van_cost_13 lk_Van_92 vc_Trip_total (ct_total h1 k1 hT (by omega) pl39 hQ hRV) rfl rfl rfl rfl ⟨Nat.le_of_ble_eq_true rfl, Nat.le_of_ble_eq_true rfl⟩ ⟨Nat.zero_le _, Nat.zero_le _⟩ (Nat.le_of_ble_eq_true rfl) (fun r13 s13 q13 => ?_)
    obtain ⟨e, hT2, hJ⟩ := q13
    have e := (e.resolve_right (fun q => q.1 k3)).2
    have hI2 := hI.keep hJ.pf hT2
    refine q_iret d_Van_cost_16 rfl ?_
    exact fin_ok hI2 (by omega) hk hJ.vf (by rw [e]; unfold sp_cost; (repeat (first | rw [if_pos (by omega)] | rw [if_neg (by omega)])); try rfl)
theorem cv_where {σ : sto} {g : G} {B : Int} (hI : OI σ g B) (hk : g.ok) : CI M_Van_where 14 [vR 0] σ (PV (g.lw, g) σ B) := by
  refine ci_of [vR 0] fy_Van_where.1 rfl (Nat.le_of_ble_eq_true rfl) ?_
  refine r_aload_n 0 d_Van_where_0 rfl rfl ?_
  refine r_getI 10 d_Van_where_1 fk_Van_64 rfl rfl rfl ?_
  rw [hI.2.2.2.2.2.2.1]
  refine q_iret d_Van_where_4 rfl ?_
  exact fin_ok hI (by omega) hk VF.rf rfl
theorem cv_put {σ : sto} {g : G} {B s v i : Int} (hI : OI σ g B) (hB : B ≤ 3998) (hk : g.ok) (h_s : inR s) (h_v : inR v) (h_i : inR i) : CI M_Van_put 14 [vR 0, vI s, vI v, vI i] σ (PV (sp_put g s v i) σ B) := by
  obtain ⟨h1, hT, hQ, hU, h09, hrn, h010, hrf⟩ := id hI
  obtain ⟨k1, k2, k3, k4, k5, k6⟩ := id hk
  have hn := k1.1
  have hRV := k2.rv hn.1 hn.2.1
  refine ci_of [vR 0, vI s, vI v, vI i] fy_Van_put.1 rfl (Nat.le_of_ble_eq_true rfl) ?_
  refine r_aload_n 0 d_Van_put_0 rfl rfl ?_
  refine r_getR 9 d_Van_put_1 fk_Van_37 rfl rfl rfl (by decide) ?_
  refine r_iload_n 1 d_Van_put_4 rfl rfl ?_
  refine r_cVI 3 d_Van_put_5 lk_Van_114 vc_Stops_has (ct_hasS h1 k1 (by omega)) rfl rfl rfl rfl ⟨Nat.le_of_ble_eq_true rfl, Nat.le_of_ble_eq_true rfl⟩ ⟨Nat.zero_le _, Nat.zero_le _⟩ (Nat.le_of_ble_eq_true rfl) (fun r5 s5 q5 => ?_)
  obtain ⟨q5, hs5⟩ := q5
  have hs5 := hs5.symm
  subst hs5
  refine r_if_eq 20 d_Van_put_8 rfl (by omega) (fun h8 => ?_) (fun h8 => ?_)
  · refine r_aload_n 0 d_Van_put_20 rfl rfl ?_
    refine r_bipush d_Van_put_21 (by decide) ?_
    refine r_cVI 7 d_Van_put_23 lk_Van_74 vc_Van_refuse (ct_refuse (by omega)) rfl rfl rfl rfl ⟨Nat.le_of_ble_eq_true rfl, Nat.le_of_ble_eq_true rfl⟩ ⟨Nat.zero_le _, Nat.zero_le _⟩ (Nat.le_of_ble_eq_true rfl) (fun r23 s23 q23 => ?_)
    have q := q23
    refine q_iret d_Van_put_26 rfl ?_
    exact fin_no hI (by omega) hk VF.rf q (by unfold sp_put; (repeat (first | rw [if_pos (by omega)] | rw [if_neg (by omega)])); try rfl)
  · refine r_aload_n 0 d_Van_put_11 rfl rfl ?_
    refine r_iload_n 2 d_Van_put_12 rfl rfl ?_
    refine r_iload_n 3 d_Van_put_13 rfl rfl ?_
    refine r_cVI 7 d_Van_put_14 lk_Van_207 vc_Van_isGap (ct_isGap h1 k1 hQ (by omega) (by omega)) rfl rfl rfl rfl ⟨Nat.le_of_ble_eq_true rfl, Nat.le_of_ble_eq_true rfl⟩ ⟨Nat.zero_le _, Nat.zero_le _⟩ (Nat.le_of_ble_eq_true rfl) (fun r14 s14 q14 => ?_)
    obtain ⟨q14, hs14⟩ := q14
    have hs14 := hs14.symm
    subst hs14
    refine r_if_ne 27 d_Van_put_17 rfl (by omega) (fun h17 => ?_) (fun h17 => ?_)
    · refine r_aload_n 0 d_Van_put_27 rfl rfl ?_
      refine r_getR 39 d_Van_put_28 fk_Van_46 rfl rfl rfl (by decide) ?_
      refine r_iload_n 1 d_Van_put_31 rfl rfl ?_
      refine r_cVP 1 d_Van_put_32 lk_Van_125 vc_Plan_vanWith (ct_vanWith pl39 hQ (by omega)) rfl rfl rfl rfl ⟨Nat.le_of_ble_eq_true rfl, Nat.le_of_ble_eq_true rfl⟩ ⟨Nat.zero_le _, Nat.zero_le _⟩ (Nat.le_of_ble_eq_true rfl) ?_
      refine r_iconst d_Van_put_35 ?_
      refine r_icmp_eq 46 d_Van_put_36 rfl (by have := vanOf_in g.P s; omega) (by omega) (fun h36 => ?_) (fun h36 => ?_)
      · have hs : s ∉ al3 g.P := vanOf_no.mp h36
        have ro := row_ok k1 k2 (v := v) (i := i) (by omega) (by omega) (by omega) (by omega) (by omega) (by omega) hs
        refine r_aload_n 0 d_Van_put_46 rfl rfl ?_
        refine r_getR 27 d_Van_put_47 fk_Van_20 rfl rfl rfl (by decide) ?_
        refine r_aload_n 0 d_Van_put_50 rfl rfl ?_
        refine r_getR 39 d_Van_put_51 fk_Van_46 rfl rfl rfl (by decide) ?_
        refine r_cVV 1 d_Van_put_54 lk_Van_210 vc_Plan_become (ct_become pl27 pl39 (by decide) hQ) rfl rfl rfl rfl ⟨Nat.le_of_ble_eq_true rfl, Nat.le_of_ble_eq_true rfl⟩ ⟨Nat.zero_le _, Nat.zero_le _⟩ (Nat.le_of_ble_eq_true rfl) (fun s54 q54 => ?_)
        obtain ⟨a1, a2⟩ := q54
        have hI1 := hI.keep a2.pf (a2.tc pl27 hT)
        refine r_aload_n 0 d_Van_put_57 rfl rfl ?_
        refine r_getR 27 d_Van_put_58 fk_Van_20 rfl rfl rfl (by decide) ?_
        refine r_iload_n 2 d_Van_put_61 rfl rfl ?_
        refine r_iload_n 3 d_Van_put_62 rfl rfl ?_
        refine r_iload_n 1 d_Van_put_63 rfl rfl ?_
        refine r_cVV 1 d_Van_put_64 lk_Van_214 vc_Plan_insert (ct_insert pl27 a1 (by omega) (by omega) (by omega) (by omega) ro.2.2.2 (by omega) (by omega)) rfl rfl rfl rfl ⟨Nat.le_of_ble_eq_true rfl, Nat.le_of_ble_eq_true rfl⟩ ⟨Nat.zero_le _, Nat.zero_le _⟩ (Nat.le_of_ble_eq_true rfl) (fun s64 q64 => ?_)
        obtain ⟨b1, b2⟩ := q64
        have hI2 := hI1.keep b2.pf (b2.tc pl27 hI1.2.1)
        refine r_aload_n 0 d_Van_put_67 rfl rfl ?_
        refine r_cVI 7 d_Van_put_68 lk_Van_220 vc_Van_settle (ct_settle hI2 (by omega) hk b1 ro.1 (a2.pf.vf.tr b2.pf.vf)) rfl rfl rfl rfl ⟨Nat.le_of_ble_eq_true rfl, Nat.le_of_ble_eq_true rfl⟩ ⟨Nat.zero_le _, Nat.zero_le _⟩ (Nat.le_of_ble_eq_true rfl) (fun r68 s68 q68 => ?_)
        refine q_iret d_Van_put_71 rfl ?_
        exact fin_eq q68 (by unfold sp_put; (repeat (first | rw [if_pos (by omega)] | rw [if_neg (by omega)])); try rfl)
      · have hvo := vanOf_in g.P s
        refine r_aload_n 0 d_Van_put_39 rfl rfl ?_
        refine r_bipush d_Van_put_40 (by decide) ?_
        refine r_cVI 7 d_Van_put_42 lk_Van_74 vc_Van_refuse (ct_refuse (by omega)) rfl rfl rfl rfl ⟨Nat.le_of_ble_eq_true rfl, Nat.le_of_ble_eq_true rfl⟩ ⟨Nat.zero_le _, Nat.zero_le _⟩ (Nat.le_of_ble_eq_true rfl) (fun r42 s42 q42 => ?_)
        have q := q42
        refine q_iret d_Van_put_45 rfl ?_
        exact fin_no hI (by omega) hk VF.rf q (by unfold sp_put; (repeat (first | rw [if_pos (by omega)] | rw [if_neg (by omega)])); try rfl)
    · refine r_aload_n 0 d_Van_put_20 rfl rfl ?_
      refine r_bipush d_Van_put_21 (by decide) ?_
      refine r_cVI 7 d_Van_put_23 lk_Van_74 vc_Van_refuse (ct_refuse (by omega)) rfl rfl rfl rfl ⟨Nat.le_of_ble_eq_true rfl, Nat.le_of_ble_eq_true rfl⟩ ⟨Nat.zero_le _, Nat.zero_le _⟩ (Nat.le_of_ble_eq_true rfl) (fun r23 s23 q23 => ?_)
      have q := q23
      refine q_iret d_Van_put_26 rfl ?_
      exact fin_no hI (by omega) hk VF.rf q (by unfold sp_put; (repeat (first | rw [if_pos (by omega)] | rw [if_neg (by omega)])); try rfl)
theorem cv_why {σ : sto} {g : G} {B s v i : Int} (hI : OI σ g B) (hB : B ≤ 3998) (hk : g.ok) (h_s : inR s) (h_v : inR v) (h_i : inR i) : CI M_Van_why 14 [vR 0, vI s, vI v, vI i] σ (PV (sp_why g s v i) σ B) := by
  obtain ⟨h1, hT, hQ, hU, h09, hrn, h010, hrf⟩ := id hI
  obtain ⟨k1, k2, k3, k4, k5, k6⟩ := id hk
  have hn := k1.1
  have hRV := k2.rv hn.1 hn.2.1
  refine ci_of [vR 0, vI s, vI v, vI i, vU] fy_Van_why.1 rfl (Nat.le_of_ble_eq_true rfl) ?_
  refine r_aload_n 0 d_Van_why_0 rfl rfl ?_
  refine r_getR 9 d_Van_why_1 fk_Van_37 rfl rfl rfl (by decide) ?_
  refine r_iload_n 1 d_Van_why_4 rfl rfl ?_
  refine r_cVI 3 d_Van_why_5 lk_Van_114 vc_Stops_has (ct_hasS h1 k1 (by omega)) rfl rfl rfl rfl ⟨Nat.le_of_ble_eq_true rfl, Nat.le_of_ble_eq_true rfl⟩ ⟨Nat.zero_le _, Nat.zero_le _⟩ (Nat.le_of_ble_eq_true rfl) (fun r5 s5 q5 => ?_)
  obtain ⟨q5, hs5⟩ := q5
  have hs5 := hs5.symm
  subst hs5
  refine r_if_eq 20 d_Van_why_8 rfl (by omega) (fun h8 => ?_) (fun h8 => ?_)
  · refine r_aload_n 0 d_Van_why_20 rfl rfl ?_
    refine r_bipush d_Van_why_21 (by decide) ?_
    refine r_cVI 7 d_Van_why_23 lk_Van_74 vc_Van_refuse (ct_refuse (by omega)) rfl rfl rfl rfl ⟨Nat.le_of_ble_eq_true rfl, Nat.le_of_ble_eq_true rfl⟩ ⟨Nat.zero_le _, Nat.zero_le _⟩ (Nat.le_of_ble_eq_true rfl) (fun r23 s23 q23 => ?_)
    have q := q23
    refine q_iret d_Van_why_26 rfl ?_
    exact fin_no hI (by omega) hk VF.rf q (by unfold sp_why; (repeat (first | rw [if_pos (by omega)] | rw [if_neg (by omega)])); try rfl)
  · refine r_aload_n 0 d_Van_why_11 rfl rfl ?_
    refine r_iload_n 2 d_Van_why_12 rfl rfl ?_
    refine r_iload_n 3 d_Van_why_13 rfl rfl ?_
    refine r_cVI 7 d_Van_why_14 lk_Van_207 vc_Van_isGap (ct_isGap h1 k1 hQ (by omega) (by omega)) rfl rfl rfl rfl ⟨Nat.le_of_ble_eq_true rfl, Nat.le_of_ble_eq_true rfl⟩ ⟨Nat.zero_le _, Nat.zero_le _⟩ (Nat.le_of_ble_eq_true rfl) (fun r14 s14 q14 => ?_)
    obtain ⟨q14, hs14⟩ := q14
    have hs14 := hs14.symm
    subst hs14
    refine r_if_ne 27 d_Van_why_17 rfl (by omega) (fun h17 => ?_) (fun h17 => ?_)
    · refine r_aload_n 0 d_Van_why_27 rfl rfl ?_
      refine r_getR 39 d_Van_why_28 fk_Van_46 rfl rfl rfl (by decide) ?_
      refine r_iload_n 1 d_Van_why_31 rfl rfl ?_
      refine r_cVP 1 d_Van_why_32 lk_Van_125 vc_Plan_vanWith (ct_vanWith pl39 hQ (by omega)) rfl rfl rfl rfl ⟨Nat.le_of_ble_eq_true rfl, Nat.le_of_ble_eq_true rfl⟩ ⟨Nat.zero_le _, Nat.zero_le _⟩ (Nat.le_of_ble_eq_true rfl) ?_
      refine r_iconst d_Van_why_35 ?_
      refine r_icmp_eq 46 d_Van_why_36 rfl (by have := vanOf_in g.P s; omega) (by omega) (fun h36 => ?_) (fun h36 => ?_)
      · have hs : s ∉ al3 g.P := vanOf_no.mp h36
        have ro := row_ok k1 k2 (v := v) (i := i) (by omega) (by omega) (by omega) (by omega) (by omega) (by omega) hs
        have rr : RV g.ns (up g.P v (insA (g.P v) i s) v) := by rw [up_eq]; exact ro.2.2.1
        refine r_aload_n 0 d_Van_why_46 rfl rfl ?_
        refine r_getR 27 d_Van_why_47 fk_Van_20 rfl rfl rfl (by decide) ?_
        refine r_aload_n 0 d_Van_why_50 rfl rfl ?_
        refine r_getR 39 d_Van_why_51 fk_Van_46 rfl rfl rfl (by decide) ?_
        refine r_cVV 1 d_Van_why_54 lk_Van_210 vc_Plan_become (ct_become pl27 pl39 (by decide) hQ) rfl rfl rfl rfl ⟨Nat.le_of_ble_eq_true rfl, Nat.le_of_ble_eq_true rfl⟩ ⟨Nat.zero_le _, Nat.zero_le _⟩ (Nat.le_of_ble_eq_true rfl) (fun s54 q54 => ?_)
        obtain ⟨a1, a2⟩ := q54
        have hI1 := hI.keep a2.pf (a2.tc pl27 hT)
        refine r_aload_n 0 d_Van_why_57 rfl rfl ?_
        refine r_getR 27 d_Van_why_58 fk_Van_20 rfl rfl rfl (by decide) ?_
        refine r_iload_n 2 d_Van_why_61 rfl rfl ?_
        refine r_iload_n 3 d_Van_why_62 rfl rfl ?_
        refine r_iload_n 1 d_Van_why_63 rfl rfl ?_
        refine r_cVV 1 d_Van_why_64 lk_Van_214 vc_Plan_insert (ct_insert pl27 a1 (by omega) (by omega) (by omega) (by omega) ro.2.2.2 (by omega) (by omega)) rfl rfl rfl rfl ⟨Nat.le_of_ble_eq_true rfl, Nat.le_of_ble_eq_true rfl⟩ ⟨Nat.zero_le _, Nat.zero_le _⟩ (Nat.le_of_ble_eq_true rfl) (fun s64 q64 => ?_)
        obtain ⟨b1, b2⟩ := q64
        have hI2 := hI1.keep b2.pf (b2.tc pl27 hI1.2.1)
        refine r_aload_n 0 d_Van_why_67 rfl rfl ?_
        refine r_getR 2 d_Van_why_68 fk_Van_25 rfl rfl rfl (by decide) ?_
        refine r_aload_n 0 d_Van_why_71 rfl rfl ?_
        refine r_getR 27 d_Van_why_72 fk_Van_20 rfl rfl rfl (by decide) ?_
        refine r_iload_n 2 d_Van_why_75 rfl rfl ?_
        refine r_cVI 5 d_Van_why_76 lk_Van_185 vc_Trip_judge (ct_judge hI2.1 k1 hI2.2.1 (by omega) pl27 b1 (by omega) (by omega) rr) rfl rfl rfl rfl ⟨Nat.le_of_ble_eq_true rfl, Nat.le_of_ble_eq_true rfl⟩ ⟨Nat.zero_le _, Nat.zero_le _⟩ (Nat.le_of_ble_eq_true rfl) (fun r76 s76 q76 => ?_)
        obtain ⟨e7, ew, hT3, hJ, -⟩ := q76
        rw [up_eq] at e7 ew
        have hI3 := hI2.keep hJ.pf hT3
        refine r_istore 4 d_Van_why_79 (by decide) rfl ?_
        refine r_aload_n 0 d_Van_why_81 rfl rfl ?_
        refine r_aload_n 0 d_Van_why_82 rfl rfl ?_
        refine r_getR 2 d_Van_why_83 fk_Van_25 rfl rfl rfl (by decide) ?_
        refine r_getI 8 d_Van_why_86 fk_Van_217 rfl rfl rfl ?_
        rw [ew]
        refine r_putI 10 d_Van_why_89 fk_Van_64 rfl rfl rfl (Or.inl rfl) ?_
        refine r_iload 4 d_Van_why_92 rfl ?_
        refine q_iret d_Van_why_94 rfl ?_
        refine fin_ok (g' := g.told (whrOf g.D v (insA (g.P v) i s))) (B1 := B) ?_ (by omega) hk (((a2.pf.vf.tr b2.pf.vf).tr hJ.vf).tr (fun c i q => wr_ne (by omega))) (by rw [e7]; unfold sp_why; (repeat (first | rw [if_pos (by omega)] | rw [if_neg (by omega)])); try rfl)
        obtain ⟨z1, z2, z3, z4, z5, z6, z7, z8⟩ := hI3
        exact ⟨z1.keep (fun c i q => wr_ne (by omega)), z2.keep (fun c i q => wr_ne (by omega)), z3.same (fun c i c0 c1 => wr_ne (by omega)), z4.keep (fun c i c0 c1 => wr_ne (by omega)), by rw [wr_ne (by omega)]; exact z5, fun i i0 i1 => by rw [wr_ne (by omega)]; exact z6 i i0 i1, wr_eq, fun k k0 k1 => by rw [wr_ne (by omega)]; exact z8 k k0 k1⟩
      · refine r_aload_n 0 d_Van_why_39 rfl rfl ?_
        refine r_bipush d_Van_why_40 (by decide) ?_
        refine r_cVI 7 d_Van_why_42 lk_Van_74 vc_Van_refuse (ct_refuse (by omega)) rfl rfl rfl rfl ⟨Nat.le_of_ble_eq_true rfl, Nat.le_of_ble_eq_true rfl⟩ ⟨Nat.zero_le _, Nat.zero_le _⟩ (Nat.le_of_ble_eq_true rfl) (fun r42 s42 q42 => ?_)
        have q := q42
        refine q_iret d_Van_why_45 rfl ?_
        exact fin_no hI (by omega) hk VF.rf q (by unfold sp_why; (repeat (first | rw [if_pos (by omega)] | rw [if_neg (by omega)])); try rfl)
    · refine r_aload_n 0 d_Van_why_20 rfl rfl ?_
      refine r_bipush d_Van_why_21 (by decide) ?_
      refine r_cVI 7 d_Van_why_23 lk_Van_74 vc_Van_refuse (ct_refuse (by omega)) rfl rfl rfl rfl ⟨Nat.le_of_ble_eq_true rfl, Nat.le_of_ble_eq_true rfl⟩ ⟨Nat.zero_le _, Nat.zero_le _⟩ (Nat.le_of_ble_eq_true rfl) (fun r23 s23 q23 => ?_)
      have q := q23
      refine q_iret d_Van_why_26 rfl ?_
      exact fin_no hI (by omega) hk VF.rf q (by unfold sp_why; (repeat (first | rw [if_pos (by omega)] | rw [if_neg (by omega)])); try rfl)
theorem cv_pair {σ : sto} {g : G} {B s v i j : Int} (hI : OI σ g B) (hB : B ≤ 3998) (hk : g.ok) (h_s : inR s) (h_v : inR v) (h_i : inR i) (h_j : inR j) : CI M_Van_pair 14 [vR 0, vI s, vI v, vI i, vI j] σ (PV (sp_pair g s v i j) σ B) := by
  obtain ⟨h1, hT, hQ, hU, h09, hrn, h010, hrf⟩ := id hI
  obtain ⟨k1, k2, k3, k4, k5, k6⟩ := id hk
  have hn := k1.1
  have hRV := k2.rv hn.1 hn.2.1
  refine ci_of [vR 0, vI s, vI v, vI i, vI j, vU] fy_Van_pair.1 rfl (Nat.le_of_ble_eq_true rfl) ?_
  refine r_aload_n 0 d_Van_pair_0 rfl rfl ?_
  refine r_getR 9 d_Van_pair_1 fk_Van_37 rfl rfl rfl (by decide) ?_
  refine r_iload_n 1 d_Van_pair_4 rfl rfl ?_
  refine r_cVI 3 d_Van_pair_5 lk_Van_114 vc_Stops_has (ct_hasS h1 k1 (by omega)) rfl rfl rfl rfl ⟨Nat.le_of_ble_eq_true rfl, Nat.le_of_ble_eq_true rfl⟩ ⟨Nat.zero_le _, Nat.zero_le _⟩ (Nat.le_of_ble_eq_true rfl) (fun r5 s5 q5 => ?_)
  obtain ⟨q5, hs5⟩ := q5
  have hs5 := hs5.symm
  subst hs5
  refine r_if_eq 22 d_Van_pair_8 rfl (by omega) (fun h8 => ?_) (fun h8 => ?_)
  · refine r_aload_n 0 d_Van_pair_22 rfl rfl ?_
    refine r_bipush d_Van_pair_23 (by decide) ?_
    refine r_cVI 7 d_Van_pair_25 lk_Van_74 vc_Van_refuse (ct_refuse (by omega)) rfl rfl rfl rfl ⟨Nat.le_of_ble_eq_true rfl, Nat.le_of_ble_eq_true rfl⟩ ⟨Nat.zero_le _, Nat.zero_le _⟩ (Nat.le_of_ble_eq_true rfl) (fun r25 s25 q25 => ?_)
    have q := q25
    refine q_iret d_Van_pair_28 rfl ?_
    exact fin_no hI (by omega) hk VF.rf q (by unfold sp_pair; (repeat (first | rw [if_pos (by omega)] | rw [if_neg (by omega)])); try rfl)
  · refine r_aload_n 0 d_Van_pair_11 rfl rfl ?_
    refine r_getR 18 d_Van_pair_12 fk_Van_42 rfl rfl rfl (by decide) ?_
    refine r_iload_n 2 d_Van_pair_15 rfl rfl ?_
    refine r_cVI 6 d_Van_pair_16 lk_Van_163 vc_Vans_has (ct_hasV h1 k1 (by omega)) rfl rfl rfl rfl ⟨Nat.le_of_ble_eq_true rfl, Nat.le_of_ble_eq_true rfl⟩ ⟨Nat.zero_le _, Nat.zero_le _⟩ (Nat.le_of_ble_eq_true rfl) (fun r16 s16 q16 => ?_)
    obtain ⟨q16, hs16⟩ := q16
    have hs16 := hs16.symm
    subst hs16
    refine r_if_ne 29 d_Van_pair_19 rfl (by omega) (fun h19 => ?_) (fun h19 => ?_)
    · have hat := h1.at (s := s) (by omega) (by omega)
      have hds := k1.2.1 s (by omega) (by omega)
      have hz := hQ.len (v := v) (by omega) (by omega)
      rw [show (39 : Int) + 5 = 44 from rfl] at hz
      refine r_aload_n 0 d_Van_pair_29 rfl rfl ?_
      refine r_getR 9 d_Van_pair_30 fk_Van_37 rfl rfl rfl (by decide) ?_
      refine r_getR 10 d_Van_pair_33 fk_Van_119 rfl rfl rfl (by decide) ?_
      refine r_iload_n 1 d_Van_pair_36 rfl rfl ?_
      refine r_iald 12 d_Van_pair_37 rfl rfl (by omega) (by omega) ?_
      refine r_iconst d_Van_pair_38 ?_
      rw [hat.1]
      refine r_icmp_eq 49 d_Van_pair_39 rfl (by omega) (by omega) (fun h39 => ?_) (fun h39 => ?_)
      · refine r_aload_n 0 d_Van_pair_49 rfl rfl ?_
        refine r_getR 9 d_Van_pair_50 fk_Van_37 rfl rfl rfl (by decide) ?_
        refine r_getR 16 d_Van_pair_53 fk_Van_122 rfl rfl rfl (by decide) ?_
        refine r_iload_n 1 d_Van_pair_56 rfl rfl ?_
        refine r_iald 12 d_Van_pair_57 rfl rfl (by omega) (by omega) ?_
        rw [hat.2.2.2.2.2.1]
        refine r_istore 5 d_Van_pair_58 (by decide) rfl ?_
        refine r_iload 5 d_Van_pair_60 rfl ?_
        refine r_iconst d_Van_pair_62 ?_
        refine r_icmp_ne 73 d_Van_pair_63 rfl (by omega) (by omega) (fun h63 => ?_) (fun h63 => ?_)
        · refine r_aload_n 0 d_Van_pair_73 rfl rfl ?_
          refine r_iload_n 2 d_Van_pair_74 rfl rfl ?_
          refine r_iload_n 3 d_Van_pair_75 rfl rfl ?_
          refine r_cVI 7 d_Van_pair_76 lk_Van_207 vc_Van_isGap (ct_isGap h1 k1 hQ (by omega) (by omega)) rfl rfl rfl rfl ⟨Nat.le_of_ble_eq_true rfl, Nat.le_of_ble_eq_true rfl⟩ ⟨Nat.zero_le _, Nat.zero_le _⟩ (Nat.le_of_ble_eq_true rfl) (fun r76 s76 q76 => ?_)
          obtain ⟨q76, hs76⟩ := q76
          have hs76 := hs76.symm
          subst hs76
          refine r_if_eq 103 d_Van_pair_79 rfl (by omega) (fun h79 => ?_) (fun h79 => ?_)
          · refine r_aload_n 0 d_Van_pair_103 rfl rfl ?_
            refine r_bipush d_Van_pair_104 (by decide) ?_
            refine r_cVI 7 d_Van_pair_106 lk_Van_74 vc_Van_refuse (ct_refuse (by omega)) rfl rfl rfl rfl ⟨Nat.le_of_ble_eq_true rfl, Nat.le_of_ble_eq_true rfl⟩ ⟨Nat.zero_le _, Nat.zero_le _⟩ (Nat.le_of_ble_eq_true rfl) (fun r106 s106 q106 => ?_)
            have q := q106
            refine q_iret d_Van_pair_109 rfl ?_
            exact fin_no hI (by omega) hk VF.rf q (by unfold sp_pair; (repeat (first | rw [if_pos (by omega)] | rw [if_neg (by omega)])); try rfl)
          · refine r_iload 4 d_Van_pair_82 rfl ?_
            refine r_if_lt 103 d_Van_pair_84 rfl (by omega) (fun h84 => ?_) (fun h84 => ?_)
            · refine r_aload_n 0 d_Van_pair_103 rfl rfl ?_
              refine r_bipush d_Van_pair_104 (by decide) ?_
              refine r_cVI 7 d_Van_pair_106 lk_Van_74 vc_Van_refuse (ct_refuse (by omega)) rfl rfl rfl rfl ⟨Nat.le_of_ble_eq_true rfl, Nat.le_of_ble_eq_true rfl⟩ ⟨Nat.zero_le _, Nat.zero_le _⟩ (Nat.le_of_ble_eq_true rfl) (fun r106 s106 q106 => ?_)
              have q := q106
              refine q_iret d_Van_pair_109 rfl ?_
              exact fin_no hI (by omega) hk VF.rf q (by unfold sp_pair; (repeat (first | rw [if_pos (by omega)] | rw [if_neg (by omega)])); try rfl)
            · refine r_iload 4 d_Van_pair_87 rfl ?_
              refine r_aload_n 0 d_Van_pair_89 rfl rfl ?_
              refine r_getR 39 d_Van_pair_90 fk_Van_46 rfl rfl rfl (by decide) ?_
              refine r_getR 44 d_Van_pair_93 fk_Van_178 rfl rfl rfl (by decide) ?_
              refine r_iload_n 2 d_Van_pair_96 rfl rfl ?_
              refine r_iald 3 d_Van_pair_97 rfl rfl (by omega) (by omega) ?_
              refine r_iconst d_Van_pair_98 ?_
              refine r_iadd d_Van_pair_99 ?_
              rw [hz.1]
              refine r_icmp_le 110 d_Van_pair_100 rfl (by omega) (by omega) (fun h100 => ?_) (fun h100 => ?_)
              · refine r_aload_n 0 d_Van_pair_110 rfl rfl ?_
                refine r_getR 39 d_Van_pair_111 fk_Van_46 rfl rfl rfl (by decide) ?_
                refine r_iload_n 1 d_Van_pair_114 rfl rfl ?_
                refine r_cVP 1 d_Van_pair_115 lk_Van_125 vc_Plan_vanWith (ct_vanWith pl39 hQ (by omega)) rfl rfl rfl rfl ⟨Nat.le_of_ble_eq_true rfl, Nat.le_of_ble_eq_true rfl⟩ ⟨Nat.zero_le _, Nat.zero_le _⟩ (Nat.le_of_ble_eq_true rfl) ?_
                refine r_iconst d_Van_pair_118 ?_
                refine r_icmp_eq 129 d_Van_pair_119 rfl (by have := vanOf_in g.P s; omega) (by omega) (fun h119 => ?_) (fun h119 => ?_)
                · have hs : s ∉ al3 g.P := vanOf_no.mp h119
                  have ro := row_ok k1 k2 (v := v) (i := i) (by omega) (by omega) (by omega) (by omega) (by omega) (by omega) hs
                  have rw2 := row2_ok k1 k2 k3 (v := v) (i := i) (j := j) (by omega) (by omega) (by omega) (by omega) (by omega) (by omega) (by omega) (by omega) hs (by omega) (by omega)
                  have hdm := pair_out k1 k2 k3 (s := s) (by omega) (by omega) hs (by omega) (by omega)
                  refine r_aload_n 0 d_Van_pair_129 rfl rfl ?_
                  refine r_getR 27 d_Van_pair_130 fk_Van_20 rfl rfl rfl (by decide) ?_
                  refine r_aload_n 0 d_Van_pair_133 rfl rfl ?_
                  refine r_getR 39 d_Van_pair_134 fk_Van_46 rfl rfl rfl (by decide) ?_
                  refine r_cVV 1 d_Van_pair_137 lk_Van_210 vc_Plan_become (ct_become pl27 pl39 (by decide) hQ) rfl rfl rfl rfl ⟨Nat.le_of_ble_eq_true rfl, Nat.le_of_ble_eq_true rfl⟩ ⟨Nat.zero_le _, Nat.zero_le _⟩ (Nat.le_of_ble_eq_true rfl) (fun s137 q137 => ?_)
                  obtain ⟨a1, a2⟩ := q137
                  have hI1 := hI.keep a2.pf (a2.tc pl27 hT)
                  refine r_aload_n 0 d_Van_pair_140 rfl rfl ?_
                  refine r_getR 27 d_Van_pair_141 fk_Van_20 rfl rfl rfl (by decide) ?_
                  refine r_iload_n 2 d_Van_pair_144 rfl rfl ?_
                  refine r_iload_n 3 d_Van_pair_145 rfl rfl ?_
                  refine r_iload_n 1 d_Van_pair_146 rfl rfl ?_
                  refine r_cVV 1 d_Van_pair_147 lk_Van_214 vc_Plan_insert (ct_insert pl27 a1 (by omega) (by omega) (by omega) (by omega) ro.2.2.2 (by omega) (by omega)) rfl rfl rfl rfl ⟨Nat.le_of_ble_eq_true rfl, Nat.le_of_ble_eq_true rfl⟩ ⟨Nat.zero_le _, Nat.zero_le _⟩ (Nat.le_of_ble_eq_true rfl) (fun s147 q147 => ?_)
                  obtain ⟨b1, b2⟩ := q147
                  have hI2 := hI1.keep b2.pf (b2.tc pl27 hI1.2.1)
                  refine r_aload_n 0 d_Van_pair_150 rfl rfl ?_
                  refine r_getR 27 d_Van_pair_151 fk_Van_20 rfl rfl rfl (by decide) ?_
                  refine r_iload_n 2 d_Van_pair_154 rfl rfl ?_
                  refine r_iload 4 d_Van_pair_155 rfl ?_
                  refine r_iload 5 d_Van_pair_157 rfl ?_
                  refine r_cVV 1 d_Van_pair_159 lk_Van_214 vc_Plan_insert (ct_insert pl27 b1 (by omega) (by omega) (by omega) (by rw [up_eq, ln_ins]; omega) (by rw [up_eq, ln_ins]; exact rw2.2.2.2) (by omega) (by omega)) rfl rfl rfl rfl ⟨Nat.le_of_ble_eq_true rfl, Nat.le_of_ble_eq_true rfl⟩ ⟨Nat.zero_le _, Nat.zero_le _⟩ (Nat.le_of_ble_eq_true rfl) (fun s159 q159 => ?_)
                  obtain ⟨c1, c2⟩ := q159
                  rw [up_up, up_eq] at c1
                  have hI3 := hI2.keep c2.pf (c2.tc pl27 hI2.2.1)
                  refine r_aload_n 0 d_Van_pair_162 rfl rfl ?_
                  refine r_cVI 7 d_Van_pair_163 lk_Van_220 vc_Van_settle (ct_settle hI3 (by omega) hk c1 rw2.1 ((a2.pf.vf.tr b2.pf.vf).tr c2.pf.vf)) rfl rfl rfl rfl ⟨Nat.le_of_ble_eq_true rfl, Nat.le_of_ble_eq_true rfl⟩ ⟨Nat.zero_le _, Nat.zero_le _⟩ (Nat.le_of_ble_eq_true rfl) (fun r163 s163 q163 => ?_)
                  refine q_iret d_Van_pair_166 rfl ?_
                  exact fin_eq q163 (by unfold sp_pair; (repeat (first | rw [if_pos (by omega)] | rw [if_neg (by omega)])); try rfl)
                · refine r_aload_n 0 d_Van_pair_122 rfl rfl ?_
                  refine r_bipush d_Van_pair_123 (by decide) ?_
                  refine r_cVI 7 d_Van_pair_125 lk_Van_74 vc_Van_refuse (ct_refuse (by omega)) rfl rfl rfl rfl ⟨Nat.le_of_ble_eq_true rfl, Nat.le_of_ble_eq_true rfl⟩ ⟨Nat.zero_le _, Nat.zero_le _⟩ (Nat.le_of_ble_eq_true rfl) (fun r125 s125 q125 => ?_)
                  have q := q125
                  refine q_iret d_Van_pair_128 rfl ?_
                  exact fin_no hI (by omega) hk VF.rf q (by unfold sp_pair; (repeat (first | rw [if_pos (by omega)] | rw [if_neg (by omega)])); try rfl)
              · refine r_aload_n 0 d_Van_pair_103 rfl rfl ?_
                refine r_bipush d_Van_pair_104 (by decide) ?_
                refine r_cVI 7 d_Van_pair_106 lk_Van_74 vc_Van_refuse (ct_refuse (by omega)) rfl rfl rfl rfl ⟨Nat.le_of_ble_eq_true rfl, Nat.le_of_ble_eq_true rfl⟩ ⟨Nat.zero_le _, Nat.zero_le _⟩ (Nat.le_of_ble_eq_true rfl) (fun r106 s106 q106 => ?_)
                have q := q106
                refine q_iret d_Van_pair_109 rfl ?_
                exact fin_no hI (by omega) hk VF.rf q (by unfold sp_pair; (repeat (first | rw [if_pos (by omega)] | rw [if_neg (by omega)])); try rfl)
        · refine r_aload_n 0 d_Van_pair_66 rfl rfl ?_
          refine r_bipush d_Van_pair_67 (by decide) ?_
          refine r_cVI 7 d_Van_pair_69 lk_Van_74 vc_Van_refuse (ct_refuse (by omega)) rfl rfl rfl rfl ⟨Nat.le_of_ble_eq_true rfl, Nat.le_of_ble_eq_true rfl⟩ ⟨Nat.zero_le _, Nat.zero_le _⟩ (Nat.le_of_ble_eq_true rfl) (fun r69 s69 q69 => ?_)
          have q := q69
          refine q_iret d_Van_pair_72 rfl ?_
          exact fin_no hI (by omega) hk VF.rf q (by unfold sp_pair; (repeat (first | rw [if_pos (by omega)] | rw [if_neg (by omega)])); try rfl)
      · refine r_aload_n 0 d_Van_pair_42 rfl rfl ?_
        refine r_bipush d_Van_pair_43 (by decide) ?_
        refine r_cVI 7 d_Van_pair_45 lk_Van_74 vc_Van_refuse (ct_refuse (by omega)) rfl rfl rfl rfl ⟨Nat.le_of_ble_eq_true rfl, Nat.le_of_ble_eq_true rfl⟩ ⟨Nat.zero_le _, Nat.zero_le _⟩ (Nat.le_of_ble_eq_true rfl) (fun r45 s45 q45 => ?_)
        have q := q45
        refine q_iret d_Van_pair_48 rfl ?_
        exact fin_no hI (by omega) hk VF.rf q (by unfold sp_pair; (repeat (first | rw [if_pos (by omega)] | rw [if_neg (by omega)])); try rfl)
    · refine r_aload_n 0 d_Van_pair_22 rfl rfl ?_
      refine r_bipush d_Van_pair_23 (by decide) ?_
      refine r_cVI 7 d_Van_pair_25 lk_Van_74 vc_Van_refuse (ct_refuse (by omega)) rfl rfl rfl rfl ⟨Nat.le_of_ble_eq_true rfl, Nat.le_of_ble_eq_true rfl⟩ ⟨Nat.zero_le _, Nat.zero_le _⟩ (Nat.le_of_ble_eq_true rfl) (fun r25 s25 q25 => ?_)
      have q := q25
      refine q_iret d_Van_pair_28 rfl ?_
      exact fin_no hI (by omega) hk VF.rf q (by unfold sp_pair; (repeat (first | rw [if_pos (by omega)] | rw [if_neg (by omega)])); try rfl)
theorem cv_take {σ : sto} {g : G} {B s : Int} (hI : OI σ g B) (hB : B ≤ 3998) (hk : g.ok) (h_s : inR s) : CI M_Van_take 14 [vR 0, vI s] σ (PV (sp_take g s) σ B) := by
  obtain ⟨h1, hT, hQ, hU, h09, hrn, h010, hrf⟩ := id hI
  obtain ⟨k1, k2, k3, k4, k5, k6⟩ := id hk
  have hn := k1.1
  have hRV := k2.rv hn.1 hn.2.1
  refine ci_of [vR 0, vI s] fy_Van_take.1 rfl (Nat.le_of_ble_eq_true rfl) ?_
  refine r_aload_n 0 d_Van_take_0 rfl rfl ?_
  refine r_getR 9 d_Van_take_1 fk_Van_37 rfl rfl rfl (by decide) ?_
  refine r_iload_n 1 d_Van_take_4 rfl rfl ?_
  refine r_cVI 3 d_Van_take_5 lk_Van_114 vc_Stops_has (ct_hasS h1 k1 (by omega)) rfl rfl rfl rfl ⟨Nat.le_of_ble_eq_true rfl, Nat.le_of_ble_eq_true rfl⟩ ⟨Nat.zero_le _, Nat.zero_le _⟩ (Nat.le_of_ble_eq_true rfl) (fun r5 s5 q5 => ?_)
  obtain ⟨q5, hs5⟩ := q5
  have hs5 := hs5.symm
  subst hs5
  refine r_if_ne 18 d_Van_take_8 rfl (by omega) (fun h8 => ?_) (fun h8 => ?_)
  · refine r_aload_n 0 d_Van_take_18 rfl rfl ?_
    refine r_getR 39 d_Van_take_19 fk_Van_46 rfl rfl rfl (by decide) ?_
    refine r_iload_n 1 d_Van_take_22 rfl rfl ?_
    refine r_cVP 1 d_Van_take_23 lk_Van_125 vc_Plan_vanWith (ct_vanWith pl39 hQ (by omega)) rfl rfl rfl rfl ⟨Nat.le_of_ble_eq_true rfl, Nat.le_of_ble_eq_true rfl⟩ ⟨Nat.zero_le _, Nat.zero_le _⟩ (Nat.le_of_ble_eq_true rfl) ?_
    refine r_iconst d_Van_take_26 ?_
    refine r_icmp_ne 37 d_Van_take_27 rfl (by have := vanOf_in g.P s; omega) (by omega) (fun h27 => ?_) (fun h27 => ?_)
    · have hat := h1.at (s := s) (by omega) (by omega)
      have hds := k1.2.1 s (by omega) (by omega)
      have p1 := (k2.rmv hn.2.2.2 s).1
      have p2 := (p1.rmv hn.2.2.2 (g.D 6 s)).1
      refine r_aload_n 0 d_Van_take_37 rfl rfl ?_
      refine r_getR 27 d_Van_take_38 fk_Van_20 rfl rfl rfl (by decide) ?_
      refine r_aload_n 0 d_Van_take_41 rfl rfl ?_
      refine r_getR 39 d_Van_take_42 fk_Van_46 rfl rfl rfl (by decide) ?_
      refine r_cVV 1 d_Van_take_45 lk_Van_210 vc_Plan_become (ct_become pl27 pl39 (by decide) hQ) rfl rfl rfl rfl ⟨Nat.le_of_ble_eq_true rfl, Nat.le_of_ble_eq_true rfl⟩ ⟨Nat.zero_le _, Nat.zero_le _⟩ (Nat.le_of_ble_eq_true rfl) (fun s45 q45 => ?_)
      obtain ⟨a1, a2⟩ := q45
      have hI1 := hI.keep a2.pf (a2.tc pl27 hT)
      refine r_aload_n 0 d_Van_take_48 rfl rfl ?_
      refine r_getR 27 d_Van_take_49 fk_Van_20 rfl rfl rfl (by decide) ?_
      refine r_iload_n 1 d_Van_take_52 rfl rfl ?_
      refine r_cVV 1 d_Van_take_53 lk_Van_224 vc_Plan_remove (ct_remove pl27 a1 (by omega)) rfl rfl rfl rfl ⟨Nat.le_of_ble_eq_true rfl, Nat.le_of_ble_eq_true rfl⟩ ⟨Nat.zero_le _, Nat.zero_le _⟩ (Nat.le_of_ble_eq_true rfl) (fun s53 q53 => ?_)
      obtain ⟨b1, b2⟩ := q53
      have hI2 := hI1.keep b2.pf (b2.tc pl27 hI1.2.1)
      have hm2 := (hI2.1.at (s := s) (by omega) (by omega)).2.2.2.2.2.1
      refine r_aload_n 0 d_Van_take_56 rfl rfl ?_
      refine r_getR 9 d_Van_take_57 fk_Van_37 rfl rfl rfl (by decide) ?_
      refine r_getR 16 d_Van_take_60 fk_Van_122 rfl rfl rfl (by decide) ?_
      refine r_iload_n 1 d_Van_take_63 rfl rfl ?_
      refine r_iald 12 d_Van_take_64 rfl rfl (by omega) (by omega) ?_
      rw [hm2]
      refine r_iconst d_Van_take_65 ?_
      refine r_icmp_eq 85 d_Van_take_66 rfl (by omega) (by omega) (fun h66 => ?_) (fun h66 => ?_)
      · refine r_aload_n 0 d_Van_take_85 rfl rfl ?_
        refine r_cVI 7 d_Van_take_86 lk_Van_220 vc_Van_settle (ct_settle (by first | exact hI3 | exact hI2) (by omega) hk (by first | exact c1 | exact b1) (by first | exact p2 | exact p1) (by first | exact ((a2.pf.vf.tr b2.pf.vf).tr c2.pf.vf) | exact (a2.pf.vf.tr b2.pf.vf))) rfl rfl rfl rfl ⟨Nat.le_of_ble_eq_true rfl, Nat.le_of_ble_eq_true rfl⟩ ⟨Nat.zero_le _, Nat.zero_le _⟩ (Nat.le_of_ble_eq_true rfl) (fun r86 s86 q86 => ?_)
        refine q_iret d_Van_take_89 rfl ?_
        first
          | exact fin_eq q86 (by unfold sp_take; (repeat (first | rw [if_pos (by omega)] | rw [if_neg (by omega)])); try rfl)
      · refine r_aload_n 0 d_Van_take_69 rfl rfl ?_
        refine r_getR 27 d_Van_take_70 fk_Van_20 rfl rfl rfl (by decide) ?_
        refine r_aload_n 0 d_Van_take_73 rfl rfl ?_
        refine r_getR 9 d_Van_take_74 fk_Van_37 rfl rfl rfl (by decide) ?_
        refine r_getR 16 d_Van_take_77 fk_Van_122 rfl rfl rfl (by decide) ?_
        refine r_iload_n 1 d_Van_take_80 rfl rfl ?_
        refine r_iald 12 d_Van_take_81 rfl rfl (by omega) (by omega) ?_
        rw [hm2]
        refine r_cVV 1 d_Van_take_82 lk_Van_224 vc_Plan_remove (ct_remove pl27 b1 (by omega)) rfl rfl rfl rfl ⟨Nat.le_of_ble_eq_true rfl, Nat.le_of_ble_eq_true rfl⟩ ⟨Nat.zero_le _, Nat.zero_le _⟩ (Nat.le_of_ble_eq_true rfl) (fun s82 q82 => ?_)
        obtain ⟨c1, c2⟩ := q82
        have hI3 := hI2.keep c2.pf (c2.tc pl27 hI2.2.1)
        refine r_aload_n 0 d_Van_take_85 rfl rfl ?_
        refine r_cVI 7 d_Van_take_86 lk_Van_220 vc_Van_settle (ct_settle (by first | exact hI3 | exact hI2) (by omega) hk (by first | exact c1 | exact b1) (by first | exact p2 | exact p1) (by first | exact ((a2.pf.vf.tr b2.pf.vf).tr c2.pf.vf) | exact (a2.pf.vf.tr b2.pf.vf))) rfl rfl rfl rfl ⟨Nat.le_of_ble_eq_true rfl, Nat.le_of_ble_eq_true rfl⟩ ⟨Nat.zero_le _, Nat.zero_le _⟩ (Nat.le_of_ble_eq_true rfl) (fun r86 s86 q86 => ?_)
        refine q_iret d_Van_take_89 rfl ?_
        first
          | exact fin_eq q86 (by unfold sp_take; (repeat (first | rw [if_pos (by omega)] | rw [if_neg (by omega)])); try rfl)
    · refine r_aload_n 0 d_Van_take_30 rfl rfl ?_
      refine r_bipush d_Van_take_31 (by decide) ?_
      refine r_cVI 7 d_Van_take_33 lk_Van_74 vc_Van_refuse (ct_refuse (by omega)) rfl rfl rfl rfl ⟨Nat.le_of_ble_eq_true rfl, Nat.le_of_ble_eq_true rfl⟩ ⟨Nat.zero_le _, Nat.zero_le _⟩ (Nat.le_of_ble_eq_true rfl) (fun r33 s33 q33 => ?_)
      have q := q33
      refine q_iret d_Van_take_36 rfl ?_
      exact fin_no hI (by omega) hk VF.rf q (by unfold sp_take; (repeat (first | rw [if_pos (by omega)] | rw [if_neg (by omega)])); try rfl)
  · refine r_aload_n 0 d_Van_take_11 rfl rfl ?_
    refine r_bipush d_Van_take_12 (by decide) ?_
    refine r_cVI 7 d_Van_take_14 lk_Van_74 vc_Van_refuse (ct_refuse (by omega)) rfl rfl rfl rfl ⟨Nat.le_of_ble_eq_true rfl, Nat.le_of_ble_eq_true rfl⟩ ⟨Nat.zero_le _, Nat.zero_le _⟩ (Nat.le_of_ble_eq_true rfl) (fun r14 s14 q14 => ?_)
    have q := q14
    refine q_iret d_Van_take_17 rfl ?_
    exact fin_no hI (by omega) hk VF.rf q (by unfold sp_take; (repeat (first | rw [if_pos (by omega)] | rw [if_neg (by omega)])); try rfl)
theorem cv_move {σ : sto} {g : G} {B s v i : Int} (hI : OI σ g B) (hB : B ≤ 3998) (hk : g.ok) (h_s : inR s) (h_v : inR v) (h_i : inR i) : CI M_Van_move 14 [vR 0, vI s, vI v, vI i] σ (PV (sp_move g s v i) σ B) := by
  obtain ⟨h1, hT, hQ, hU, h09, hrn, h010, hrf⟩ := id hI
  obtain ⟨k1, k2, k3, k4, k5, k6⟩ := id hk
  have hn := k1.1
  have hRV := k2.rv hn.1 hn.2.1
  refine ci_of [vR 0, vI s, vI v, vI i, vU, vU] fy_Van_move.1 rfl (Nat.le_of_ble_eq_true rfl) ?_
  refine r_aload_n 0 d_Van_move_0 rfl rfl ?_
  refine r_getR 9 d_Van_move_1 fk_Van_37 rfl rfl rfl (by decide) ?_
  refine r_iload_n 1 d_Van_move_4 rfl rfl ?_
  refine r_cVI 3 d_Van_move_5 lk_Van_114 vc_Stops_has (ct_hasS h1 k1 (by omega)) rfl rfl rfl rfl ⟨Nat.le_of_ble_eq_true rfl, Nat.le_of_ble_eq_true rfl⟩ ⟨Nat.zero_le _, Nat.zero_le _⟩ (Nat.le_of_ble_eq_true rfl) (fun r5 s5 q5 => ?_)
  obtain ⟨q5, hs5⟩ := q5
  have hs5 := hs5.symm
  subst hs5
  refine r_if_eq 22 d_Van_move_8 rfl (by omega) (fun h8 => ?_) (fun h8 => ?_)
  · refine r_aload_n 0 d_Van_move_22 rfl rfl ?_
    refine r_bipush d_Van_move_23 (by decide) ?_
    refine r_cVI 7 d_Van_move_25 lk_Van_74 vc_Van_refuse (ct_refuse (by omega)) rfl rfl rfl rfl ⟨Nat.le_of_ble_eq_true rfl, Nat.le_of_ble_eq_true rfl⟩ ⟨Nat.zero_le _, Nat.zero_le _⟩ (Nat.le_of_ble_eq_true rfl) (fun r25 s25 q25 => ?_)
    have q := q25
    refine q_iret d_Van_move_28 rfl ?_
    exact fin_no hI (by omega) hk VF.rf q (by unfold sp_move; (repeat (first | rw [if_pos (by omega)] | rw [if_neg (by omega)])); try rfl)
  · refine r_aload_n 0 d_Van_move_11 rfl rfl ?_
    refine r_getR 18 d_Van_move_12 fk_Van_42 rfl rfl rfl (by decide) ?_
    refine r_iload_n 2 d_Van_move_15 rfl rfl ?_
    refine r_cVI 6 d_Van_move_16 lk_Van_163 vc_Vans_has (ct_hasV h1 k1 (by omega)) rfl rfl rfl rfl ⟨Nat.le_of_ble_eq_true rfl, Nat.le_of_ble_eq_true rfl⟩ ⟨Nat.zero_le _, Nat.zero_le _⟩ (Nat.le_of_ble_eq_true rfl) (fun r16 s16 q16 => ?_)
    obtain ⟨q16, hs16⟩ := q16
    have hs16 := hs16.symm
    subst hs16
    refine r_if_ne 29 d_Van_move_19 rfl (by omega) (fun h19 => ?_) (fun h19 => ?_)
    · refine r_aload_n 0 d_Van_move_29 rfl rfl ?_
      refine r_getR 39 d_Van_move_30 fk_Van_46 rfl rfl rfl (by decide) ?_
      refine r_iload_n 1 d_Van_move_33 rfl rfl ?_
      refine r_cVP 1 d_Van_move_34 lk_Van_125 vc_Plan_vanWith (ct_vanWith pl39 hQ (by omega)) rfl rfl rfl rfl ⟨Nat.le_of_ble_eq_true rfl, Nat.le_of_ble_eq_true rfl⟩ ⟨Nat.zero_le _, Nat.zero_le _⟩ (Nat.le_of_ble_eq_true rfl) ?_
      refine r_istore 4 d_Van_move_37 (by decide) rfl ?_
      refine r_iload 4 d_Van_move_39 rfl ?_
      refine r_iconst d_Van_move_41 ?_
      refine r_icmp_ne 52 d_Van_move_42 rfl (by have := vanOf_in g.P s; omega) (by omega) (fun h42 => ?_) (fun h42 => ?_)
      · have hz := hQ.len (v := v) (by omega) (by omega)
        rw [show (39 : Int) + 5 = 44 from rfl] at hz
        obtain ⟨p1, hs1⟩ := k2.rmv hn.2.2.2 s
        have e1 := rmv1_eq (P := g.P) (s := s) rfl h42
        refine r_aload_n 0 d_Van_move_52 rfl rfl ?_
        refine r_getR 39 d_Van_move_53 fk_Van_46 rfl rfl rfl (by decide) ?_
        refine r_getR 44 d_Van_move_56 fk_Van_178 rfl rfl rfl (by decide) ?_
        refine r_iload_n 2 d_Van_move_59 rfl rfl ?_
        refine r_iald 3 d_Van_move_60 rfl rfl (by omega) (by omega) ?_
        rw [hz.1]
        refine r_iload 4 d_Van_move_61 rfl ?_
        refine r_iload_n 2 d_Van_move_63 rfl rfl ?_
        refine r_icmp_ne 71 d_Van_move_64 rfl (by have := vanOf_in g.P s; omega) (by omega) (fun h64 => ?_) (fun h64 => ?_)
        · have hrl : ln (rmv1 g.P s v) = ln (g.P v) := by rw [e1, up_ne (by omega)]
          refine r_iconst d_Van_move_71 ?_
          refine r_isub d_Van_move_72 ?_
          refine r_istore 5 d_Van_move_73 (by decide) rfl ?_
          refine r_iload_n 3 d_Van_move_75 rfl rfl ?_
          refine r_if_lt 85 d_Van_move_76 rfl (by omega) (fun h76 => ?_) (fun h76 => ?_)
          · refine r_aload_n 0 d_Van_move_85 rfl rfl ?_
            refine r_bipush d_Van_move_86 (by decide) ?_
            refine r_cVI 7 d_Van_move_88 lk_Van_74 vc_Van_refuse (ct_refuse (by omega)) rfl rfl rfl rfl ⟨Nat.le_of_ble_eq_true rfl, Nat.le_of_ble_eq_true rfl⟩ ⟨Nat.zero_le _, Nat.zero_le _⟩ (Nat.le_of_ble_eq_true rfl) (fun r88 s88 q88 => ?_)
            have q := q88
            refine q_iret d_Van_move_91 rfl ?_
            exact fin_no hI (by omega) hk VF.rf q (by unfold sp_move; (repeat (first | rw [if_pos (by omega)] | rw [if_neg (by omega)])); try rfl)
          · refine r_iload_n 3 d_Van_move_79 rfl rfl ?_
            refine r_iload 5 d_Van_move_80 rfl ?_
            refine r_icmp_le 92 d_Van_move_82 rfl (by omega) (by omega) (fun h82 => ?_) (fun h82 => ?_)
            · have ro := row_ok k1 p1 (v := v) (i := i) (by omega) (by omega) (by omega) (by omega) (by omega) (by omega) hs1
              refine r_aload_n 0 d_Van_move_92 rfl rfl ?_
              refine r_getR 27 d_Van_move_93 fk_Van_20 rfl rfl rfl (by decide) ?_
              refine r_aload_n 0 d_Van_move_96 rfl rfl ?_
              refine r_getR 39 d_Van_move_97 fk_Van_46 rfl rfl rfl (by decide) ?_
              refine r_cVV 1 d_Van_move_100 lk_Van_210 vc_Plan_become (ct_become pl27 pl39 (by decide) hQ) rfl rfl rfl rfl ⟨Nat.le_of_ble_eq_true rfl, Nat.le_of_ble_eq_true rfl⟩ ⟨Nat.zero_le _, Nat.zero_le _⟩ (Nat.le_of_ble_eq_true rfl) (fun s100 q100 => ?_)
              obtain ⟨a1, a2⟩ := q100
              have hI1 := hI.keep a2.pf (a2.tc pl27 hT)
              refine r_aload_n 0 d_Van_move_103 rfl rfl ?_
              refine r_getR 27 d_Van_move_104 fk_Van_20 rfl rfl rfl (by decide) ?_
              refine r_iload_n 1 d_Van_move_107 rfl rfl ?_
              refine r_cVV 1 d_Van_move_108 lk_Van_224 vc_Plan_remove (ct_remove pl27 a1 (by omega)) rfl rfl rfl rfl ⟨Nat.le_of_ble_eq_true rfl, Nat.le_of_ble_eq_true rfl⟩ ⟨Nat.zero_le _, Nat.zero_le _⟩ (Nat.le_of_ble_eq_true rfl) (fun s108 q108 => ?_)
              obtain ⟨b1, b2⟩ := q108
              have hI2 := hI1.keep b2.pf (b2.tc pl27 hI1.2.1)
              refine r_aload_n 0 d_Van_move_111 rfl rfl ?_
              refine r_getR 27 d_Van_move_112 fk_Van_20 rfl rfl rfl (by decide) ?_
              refine r_iload_n 2 d_Van_move_115 rfl rfl ?_
              refine r_iload_n 3 d_Van_move_116 rfl rfl ?_
              refine r_iload_n 1 d_Van_move_117 rfl rfl ?_
              refine r_cVV 1 d_Van_move_118 lk_Van_214 vc_Plan_insert (ct_insert pl27 b1 (by omega) (by omega) (by omega) (by omega) ro.2.2.2 (by omega) (by omega)) rfl rfl rfl rfl ⟨Nat.le_of_ble_eq_true rfl, Nat.le_of_ble_eq_true rfl⟩ ⟨Nat.zero_le _, Nat.zero_le _⟩ (Nat.le_of_ble_eq_true rfl) (fun s118 q118 => ?_)
              obtain ⟨c1, c2⟩ := q118
              have hI3 := hI2.keep c2.pf (c2.tc pl27 hI2.2.1)
              refine r_aload_n 0 d_Van_move_121 rfl rfl ?_
              refine r_cVI 7 d_Van_move_122 lk_Van_220 vc_Van_settle (ct_settle hI3 (by omega) hk c1 ro.1 ((a2.pf.vf.tr b2.pf.vf).tr c2.pf.vf)) rfl rfl rfl rfl ⟨Nat.le_of_ble_eq_true rfl, Nat.le_of_ble_eq_true rfl⟩ ⟨Nat.zero_le _, Nat.zero_le _⟩ (Nat.le_of_ble_eq_true rfl) (fun r122 s122 q122 => ?_)
              refine q_iret d_Van_move_125 rfl ?_
              exact fin_eq q122 (by unfold sp_move; (repeat (first | rw [if_pos (by omega)] | rw [if_neg (by omega)])); try rfl)
            · refine r_aload_n 0 d_Van_move_85 rfl rfl ?_
              refine r_bipush d_Van_move_86 (by decide) ?_
              refine r_cVI 7 d_Van_move_88 lk_Van_74 vc_Van_refuse (ct_refuse (by omega)) rfl rfl rfl rfl ⟨Nat.le_of_ble_eq_true rfl, Nat.le_of_ble_eq_true rfl⟩ ⟨Nat.zero_le _, Nat.zero_le _⟩ (Nat.le_of_ble_eq_true rfl) (fun r88 s88 q88 => ?_)
              have q := q88
              refine q_iret d_Van_move_91 rfl ?_
              exact fin_no hI (by omega) hk VF.rf q (by unfold sp_move; (repeat (first | rw [if_pos (by omega)] | rw [if_neg (by omega)])); try rfl)
        · have h64 : vanOf g.P s = v := by omega
          have hy := vanOf_yes k2 (Classical.byContradiction (fun q => h42 (vanOf_no.mpr q)))
          have hrl : ln (rmv1 g.P s v) = ln (g.P v) - 1 := by rw [e1, h64, up_eq, ln_del (by rw [h64] at hy; omega)]
          refine r_iconst d_Van_move_67 ?_
          refine r_goto 72 d_Van_move_68 rfl ?_
          refine r_isub d_Van_move_72 ?_
          refine r_istore 5 d_Van_move_73 (by decide) rfl ?_
          refine r_iload_n 3 d_Van_move_75 rfl rfl ?_
          refine r_if_lt 85 d_Van_move_76 rfl (by omega) (fun h76 => ?_) (fun h76 => ?_)
          · refine r_aload_n 0 d_Van_move_85 rfl rfl ?_
            refine r_bipush d_Van_move_86 (by decide) ?_
            refine r_cVI 7 d_Van_move_88 lk_Van_74 vc_Van_refuse (ct_refuse (by omega)) rfl rfl rfl rfl ⟨Nat.le_of_ble_eq_true rfl, Nat.le_of_ble_eq_true rfl⟩ ⟨Nat.zero_le _, Nat.zero_le _⟩ (Nat.le_of_ble_eq_true rfl) (fun r88 s88 q88 => ?_)
            have q := q88
            refine q_iret d_Van_move_91 rfl ?_
            exact fin_no hI (by omega) hk VF.rf q (by unfold sp_move; (repeat (first | rw [if_pos (by omega)] | rw [if_neg (by omega)])); try rfl)
          · refine r_iload_n 3 d_Van_move_79 rfl rfl ?_
            refine r_iload 5 d_Van_move_80 rfl ?_
            refine r_icmp_le 92 d_Van_move_82 rfl (by omega) (by omega) (fun h82 => ?_) (fun h82 => ?_)
            · have ro := row_ok k1 p1 (v := v) (i := i) (by omega) (by omega) (by omega) (by omega) (by omega) (by omega) hs1
              refine r_aload_n 0 d_Van_move_92 rfl rfl ?_
              refine r_getR 27 d_Van_move_93 fk_Van_20 rfl rfl rfl (by decide) ?_
              refine r_aload_n 0 d_Van_move_96 rfl rfl ?_
              refine r_getR 39 d_Van_move_97 fk_Van_46 rfl rfl rfl (by decide) ?_
              refine r_cVV 1 d_Van_move_100 lk_Van_210 vc_Plan_become (ct_become pl27 pl39 (by decide) hQ) rfl rfl rfl rfl ⟨Nat.le_of_ble_eq_true rfl, Nat.le_of_ble_eq_true rfl⟩ ⟨Nat.zero_le _, Nat.zero_le _⟩ (Nat.le_of_ble_eq_true rfl) (fun s100 q100 => ?_)
              obtain ⟨a1, a2⟩ := q100
              have hI1 := hI.keep a2.pf (a2.tc pl27 hT)
              refine r_aload_n 0 d_Van_move_103 rfl rfl ?_
              refine r_getR 27 d_Van_move_104 fk_Van_20 rfl rfl rfl (by decide) ?_
              refine r_iload_n 1 d_Van_move_107 rfl rfl ?_
              refine r_cVV 1 d_Van_move_108 lk_Van_224 vc_Plan_remove (ct_remove pl27 a1 (by omega)) rfl rfl rfl rfl ⟨Nat.le_of_ble_eq_true rfl, Nat.le_of_ble_eq_true rfl⟩ ⟨Nat.zero_le _, Nat.zero_le _⟩ (Nat.le_of_ble_eq_true rfl) (fun s108 q108 => ?_)
              obtain ⟨b1, b2⟩ := q108
              have hI2 := hI1.keep b2.pf (b2.tc pl27 hI1.2.1)
              refine r_aload_n 0 d_Van_move_111 rfl rfl ?_
              refine r_getR 27 d_Van_move_112 fk_Van_20 rfl rfl rfl (by decide) ?_
              refine r_iload_n 2 d_Van_move_115 rfl rfl ?_
              refine r_iload_n 3 d_Van_move_116 rfl rfl ?_
              refine r_iload_n 1 d_Van_move_117 rfl rfl ?_
              refine r_cVV 1 d_Van_move_118 lk_Van_214 vc_Plan_insert (ct_insert pl27 b1 (by omega) (by omega) (by omega) (by omega) ro.2.2.2 (by omega) (by omega)) rfl rfl rfl rfl ⟨Nat.le_of_ble_eq_true rfl, Nat.le_of_ble_eq_true rfl⟩ ⟨Nat.zero_le _, Nat.zero_le _⟩ (Nat.le_of_ble_eq_true rfl) (fun s118 q118 => ?_)
              obtain ⟨c1, c2⟩ := q118
              have hI3 := hI2.keep c2.pf (c2.tc pl27 hI2.2.1)
              refine r_aload_n 0 d_Van_move_121 rfl rfl ?_
              refine r_cVI 7 d_Van_move_122 lk_Van_220 vc_Van_settle (ct_settle hI3 (by omega) hk c1 ro.1 ((a2.pf.vf.tr b2.pf.vf).tr c2.pf.vf)) rfl rfl rfl rfl ⟨Nat.le_of_ble_eq_true rfl, Nat.le_of_ble_eq_true rfl⟩ ⟨Nat.zero_le _, Nat.zero_le _⟩ (Nat.le_of_ble_eq_true rfl) (fun r122 s122 q122 => ?_)
              refine q_iret d_Van_move_125 rfl ?_
              exact fin_eq q122 (by unfold sp_move; (repeat (first | rw [if_pos (by omega)] | rw [if_neg (by omega)])); try rfl)
            · refine r_aload_n 0 d_Van_move_85 rfl rfl ?_
              refine r_bipush d_Van_move_86 (by decide) ?_
              refine r_cVI 7 d_Van_move_88 lk_Van_74 vc_Van_refuse (ct_refuse (by omega)) rfl rfl rfl rfl ⟨Nat.le_of_ble_eq_true rfl, Nat.le_of_ble_eq_true rfl⟩ ⟨Nat.zero_le _, Nat.zero_le _⟩ (Nat.le_of_ble_eq_true rfl) (fun r88 s88 q88 => ?_)
              have q := q88
              refine q_iret d_Van_move_91 rfl ?_
              exact fin_no hI (by omega) hk VF.rf q (by unfold sp_move; (repeat (first | rw [if_pos (by omega)] | rw [if_neg (by omega)])); try rfl)
      · refine r_aload_n 0 d_Van_move_45 rfl rfl ?_
        refine r_bipush d_Van_move_46 (by decide) ?_
        refine r_cVI 7 d_Van_move_48 lk_Van_74 vc_Van_refuse (ct_refuse (by omega)) rfl rfl rfl rfl ⟨Nat.le_of_ble_eq_true rfl, Nat.le_of_ble_eq_true rfl⟩ ⟨Nat.zero_le _, Nat.zero_le _⟩ (Nat.le_of_ble_eq_true rfl) (fun r48 s48 q48 => ?_)
        have q := q48
        refine q_iret d_Van_move_51 rfl ?_
        exact fin_no hI (by omega) hk VF.rf q (by unfold sp_move; (repeat (first | rw [if_pos (by omega)] | rw [if_neg (by omega)])); try rfl)
    · refine r_aload_n 0 d_Van_move_22 rfl rfl ?_
      refine r_bipush d_Van_move_23 (by decide) ?_
      refine r_cVI 7 d_Van_move_25 lk_Van_74 vc_Van_refuse (ct_refuse (by omega)) rfl rfl rfl rfl ⟨Nat.le_of_ble_eq_true rfl, Nat.le_of_ble_eq_true rfl⟩ ⟨Nat.zero_le _, Nat.zero_le _⟩ (Nat.le_of_ble_eq_true rfl) (fun r25 s25 q25 => ?_)
      have q := q25
      refine q_iret d_Van_move_28 rfl ?_
      exact fin_no hI (by omega) hk VF.rf q (by unfold sp_move; (repeat (first | rw [if_pos (by omega)] | rw [if_neg (by omega)])); try rfl)
