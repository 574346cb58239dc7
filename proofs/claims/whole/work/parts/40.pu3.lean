-- THE CLASS: counts and rows (walks written by wip/whole/gen_pu3.py)
theorem wtAll_s {D : sto} {P : pln} {v : Int} (h : 0 ≤ v) : wtAll D P (v + 1).toNat = wtAll D P v.toNat + wt D v (P v) (ln (P v)) := by
  rw [show (v + 1).toNat = v.toNat + 1 by omega]
  show wtAll D P v.toNat + wt D ((v.toNat : Nat) : Int) (P ((v.toNat : Nat) : Int)) (ln (P ((v.toNat : Nat) : Int))) = _
  rw [show ((v.toNat : Nat) : Int) = v by omega]
theorem ct_totalWaiting {σ : sto} {g : G} {B : Int} (hI : OI σ g B) (hB : B ≤ 3998) (hk : g.ok) : CI M_Van_totalWaiting 6 [vR 0] σ (fun r σ' => r = wtAll g.D g.P g.nv.toNat ∧ TC σ' g.D B ∧ JF σ σ') := by
  obtain ⟨h1, hT, hQ, hU, h09, hrn, h010, hrf⟩ := id hI
  obtain ⟨k1, k2, k3, k4, k5, k6⟩ := id hk
  have hn := k1.1
  have hRV := k2.rv hn.1 hn.2.1
  have L : ∀ v, 0 ≤ v → v ≤ g.nv → ∀ σ1 : sto, TC σ1 g.D B → JF σ σ1 → Run M_Van_totalWaiting (rxI 6 (fun r σ' => r = wtAll g.D g.P g.nv.toNat ∧ TC σ' g.D B ∧ JF σ σ')) (0, 0) 4 [vR 0, vI (wtAll g.D g.P v.toNat), vI v] [] (sg σ1) := by
    refine up_ind (b := g.nv) ?_ ?_
    · intro σ1 hT1 hJ1
      have h18 := (hJ1.dc h1).2.1
      refine r_iload_n 2 d_Van_totalWaiting_4 rfl rfl ?_
      refine r_aload_n 0 d_Van_totalWaiting_5 rfl rfl ?_
      refine r_getR 18 d_Van_totalWaiting_6 fk_Van_42 rfl rfl rfl (by decide) ?_
      refine r_getI 0 d_Van_totalWaiting_9 fk_Van_154 rfl rfl rfl ?_
      rw [h18]
      refine r_icmp_ge 44 d_Van_totalWaiting_12 rfl (by omega) (by omega) (fun h12 => ?_) (fun h12 => absurd h12 (by omega))
      refine r_iload_n 1 d_Van_totalWaiting_44 rfl rfl ?_
      refine q_iret d_Van_totalWaiting_45 rfl ?_
      exact ⟨rfl, hT1, hJ1⟩
    · intro v v0 v1 ih σ1 hT1 hJ1
      have h18 := (hJ1.dc h1).2.1
      rw [wtAll_s v0] at ih
      refine r_iload_n 2 d_Van_totalWaiting_4 rfl rfl ?_
      refine r_aload_n 0 d_Van_totalWaiting_5 rfl rfl ?_
      refine r_getR 18 d_Van_totalWaiting_6 fk_Van_42 rfl rfl rfl (by decide) ?_
      refine r_getI 0 d_Van_totalWaiting_9 fk_Van_154 rfl rfl rfl ?_
      rw [h18]
      refine r_icmp_ge 44 d_Van_totalWaiting_12 rfl (by omega) (by omega) (fun h12 => absurd h12 (by omega)) (fun h12 => ?_)
      refine r_aload_n 0 d_Van_totalWaiting_15 rfl rfl ?_
      refine r_getR 2 d_Van_totalWaiting_16 fk_Van_25 rfl rfl rfl (by decide) ?_
      refine r_aload_n 0 d_Van_totalWaiting_19 rfl rfl ?_
      refine r_getR 39 d_Van_totalWaiting_20 fk_Van_46 rfl rfl rfl (by decide) ?_
      refine r_iload_n 2 d_Van_totalWaiting_23 rfl rfl ?_
      refine r_cVI 5 d_Van_totalWaiting_24 lk_Van_185 vc_Trip_judge (ct_judge (hJ1.dc h1) k1 hT1 (by omega) pl39 (hJ1.pa pl39 hQ) v0 v1 (hRV v v0 (by omega))) rfl rfl rfl rfl ⟨Nat.le_of_ble_eq_true rfl, Nat.le_of_ble_eq_true rfl⟩ ⟨Nat.zero_le _, Nat.zero_le _⟩ (Nat.le_of_ble_eq_true rfl) (fun r24 s24 q24 => ?_)
      obtain ⟨e7, -, hT2, hJ, hN⟩ := q24
      have hN := hN (by rw [e7]; exact k3 v v0 v1)
      refine r_pop d_Van_totalWaiting_27 rfl ?_
      refine r_iload_n 1 d_Van_totalWaiting_28 rfl rfl ?_
      refine r_aload_n 0 d_Van_totalWaiting_29 rfl rfl ?_
      refine r_getR 2 d_Van_totalWaiting_30 fk_Van_25 rfl rfl rfl (by decide) ?_
      refine r_getI 10 d_Van_totalWaiting_33 fk_Van_291 rfl rfl rfl ?_
      rw [hN.2.1]
      refine r_iadd d_Van_totalWaiting_36 ?_
      refine r_istore_n 1 d_Van_totalWaiting_37 rfl (by decide) rfl ?_
      refine r_iinc 2 d_Van_totalWaiting_38 rfl (by decide) rfl ?_
      refine r_goto 4 d_Van_totalWaiting_41 rfl ?_
      exact ih _ hT2 (hJ1.tr hJ)
  refine ci_of [vR 0, vU, vU] fy_Van_totalWaiting.1 rfl (Nat.le_of_ble_eq_true rfl) ?_
  refine r_iconst d_Van_totalWaiting_0 ?_
  refine r_istore_n 1 d_Van_totalWaiting_1 rfl (by decide) rfl ?_
  refine r_iconst d_Van_totalWaiting_2 ?_
  refine r_istore_n 2 d_Van_totalWaiting_3 rfl (by decide) rfl ?_
  exact L 0 (by omega) (by omega) σ hT JF.rf
theorem ltAll_s {D : sto} {P : pln} {v : Int} (h : 0 ≤ v) : ltAll D P (v + 1).toNat = ltAll D P v.toNat + lt9 D v (P v) (ln (P v)) := by
  rw [show (v + 1).toNat = v.toNat + 1 by omega]
  show ltAll D P v.toNat + lt9 D ((v.toNat : Nat) : Int) (P ((v.toNat : Nat) : Int)) (ln (P ((v.toNat : Nat) : Int))) = _
  rw [show ((v.toNat : Nat) : Int) = v by omega]
theorem ct_totalLateness {σ : sto} {g : G} {B : Int} (hI : OI σ g B) (hB : B ≤ 3998) (hk : g.ok) : CI M_Van_totalLateness 6 [vR 0] σ (fun r σ' => r = ltAll g.D g.P g.nv.toNat ∧ TC σ' g.D B ∧ JF σ σ') := by
  obtain ⟨h1, hT, hQ, hU, h09, hrn, h010, hrf⟩ := id hI
  obtain ⟨k1, k2, k3, k4, k5, k6⟩ := id hk
  have hn := k1.1
  have hRV := k2.rv hn.1 hn.2.1
  have L : ∀ v, 0 ≤ v → v ≤ g.nv → ∀ σ1 : sto, TC σ1 g.D B → JF σ σ1 → Run M_Van_totalLateness (rxI 6 (fun r σ' => r = ltAll g.D g.P g.nv.toNat ∧ TC σ' g.D B ∧ JF σ σ')) (0, 0) 4 [vR 0, vI (ltAll g.D g.P v.toNat), vI v] [] (sg σ1) := by
    refine up_ind (b := g.nv) ?_ ?_
    · intro σ1 hT1 hJ1
      have h18 := (hJ1.dc h1).2.1
      refine r_iload_n 2 d_Van_totalLateness_4 rfl rfl ?_
      refine r_aload_n 0 d_Van_totalLateness_5 rfl rfl ?_
      refine r_getR 18 d_Van_totalLateness_6 fk_Van_42 rfl rfl rfl (by decide) ?_
      refine r_getI 0 d_Van_totalLateness_9 fk_Van_154 rfl rfl rfl ?_
      rw [h18]
      refine r_icmp_ge 44 d_Van_totalLateness_12 rfl (by omega) (by omega) (fun h12 => ?_) (fun h12 => absurd h12 (by omega))
      refine r_iload_n 1 d_Van_totalLateness_44 rfl rfl ?_
      refine q_iret d_Van_totalLateness_45 rfl ?_
      exact ⟨rfl, hT1, hJ1⟩
    · intro v v0 v1 ih σ1 hT1 hJ1
      have h18 := (hJ1.dc h1).2.1
      rw [ltAll_s v0] at ih
      refine r_iload_n 2 d_Van_totalLateness_4 rfl rfl ?_
      refine r_aload_n 0 d_Van_totalLateness_5 rfl rfl ?_
      refine r_getR 18 d_Van_totalLateness_6 fk_Van_42 rfl rfl rfl (by decide) ?_
      refine r_getI 0 d_Van_totalLateness_9 fk_Van_154 rfl rfl rfl ?_
      rw [h18]
      refine r_icmp_ge 44 d_Van_totalLateness_12 rfl (by omega) (by omega) (fun h12 => absurd h12 (by omega)) (fun h12 => ?_)
      refine r_aload_n 0 d_Van_totalLateness_15 rfl rfl ?_
      refine r_getR 2 d_Van_totalLateness_16 fk_Van_25 rfl rfl rfl (by decide) ?_
      refine r_aload_n 0 d_Van_totalLateness_19 rfl rfl ?_
      refine r_getR 39 d_Van_totalLateness_20 fk_Van_46 rfl rfl rfl (by decide) ?_
      refine r_iload_n 2 d_Van_totalLateness_23 rfl rfl ?_
      refine r_cVI 5 d_Van_totalLateness_24 lk_Van_185 vc_Trip_judge (ct_judge (hJ1.dc h1) k1 hT1 (by omega) pl39 (hJ1.pa pl39 hQ) v0 v1 (hRV v v0 (by omega))) rfl rfl rfl rfl ⟨Nat.le_of_ble_eq_true rfl, Nat.le_of_ble_eq_true rfl⟩ ⟨Nat.zero_le _, Nat.zero_le _⟩ (Nat.le_of_ble_eq_true rfl) (fun r24 s24 q24 => ?_)
      obtain ⟨e7, -, hT2, hJ, hN⟩ := q24
      have hN := hN (by rw [e7]; exact k3 v v0 v1)
      refine r_pop d_Van_totalLateness_27 rfl ?_
      refine r_iload_n 1 d_Van_totalLateness_28 rfl rfl ?_
      refine r_aload_n 0 d_Van_totalLateness_29 rfl rfl ?_
      refine r_getR 2 d_Van_totalLateness_30 fk_Van_25 rfl rfl rfl (by decide) ?_
      refine r_getI 11 d_Van_totalLateness_33 fk_Van_294 rfl rfl rfl ?_
      rw [hN.2.2.1]
      refine r_iadd d_Van_totalLateness_36 ?_
      refine r_istore_n 1 d_Van_totalLateness_37 rfl (by decide) rfl ?_
      refine r_iinc 2 d_Van_totalLateness_38 rfl (by decide) rfl ?_
      refine r_goto 4 d_Van_totalLateness_41 rfl ?_
      exact ih _ hT2 (hJ1.tr hJ)
  refine ci_of [vR 0, vU, vU] fy_Van_totalLateness.1 rfl (Nat.le_of_ble_eq_true rfl) ?_
  refine r_iconst d_Van_totalLateness_0 ?_
  refine r_istore_n 1 d_Van_totalLateness_1 rfl (by decide) rfl ?_
  refine r_iconst d_Van_totalLateness_2 ?_
  refine r_istore_n 2 d_Van_totalLateness_3 rfl (by decide) rfl ?_
  exact L 0 (by omega) (by omega) σ hT JF.rf
theorem cv_count {σ : sto} {g : G} {B what : Int} (hI : OI σ g B) (hB : B ≤ 3998) (hk : g.ok) (h_what : inR what) : CI M_Van_count 14 [vR 0, vI what] σ (PV (sp_count g what) σ B) := by
  obtain ⟨h1, hT, hQ, hU, h09, hrn, h010, hrf⟩ := id hI
  obtain ⟨k1, k2, k3, k4, k5, k6⟩ := id hk
  have hn := k1.1
  have hRV := k2.rv hn.1 hn.2.1
  refine ci_of [vR 0, vI what] fy_Van_count.1 rfl (Nat.le_of_ble_eq_true rfl) ?_
  refine r_iload_n 1 d_Van_count_0 rfl rfl ?_
  rcases (show what = 0 ∨ what = 1 ∨ what = 2 ∨ what = 3 ∨ what = 4 ∨ what = 5 ∨ what = 6 ∨ (what < 0 ∨ 6 < what) by omega) with t0 | t1 | t2 | t3 | t4 | t5 | t6 | tx
  · refine r_tableIn (off := 43) 44 d_Van_count_1 (by omega) (by omega) (by omega) (by rw [t0]; rfl) rfl ?_
    refine r_aload_n 0 d_Van_count_44 rfl rfl ?_
    refine r_getR 9 d_Van_count_45 fk_Van_37 rfl rfl rfl (by decide) ?_
    refine r_getI 0 d_Van_count_48 fk_Van_134 rfl rfl rfl ?_
    rw [h1.1]
    refine q_iret d_Van_count_51 rfl ?_
    exact fin_ok hI (by omega) hk VF.rf (by unfold sp_count; (repeat (first | rw [if_pos (by omega)] | rw [if_neg (by omega)])); (try rfl))
  · refine r_tableIn (off := 51) 52 d_Van_count_1 (by omega) (by omega) (by omega) (by rw [t1]; rfl) rfl ?_
    refine r_aload_n 0 d_Van_count_52 rfl rfl ?_
    refine r_getR 18 d_Van_count_53 fk_Van_42 rfl rfl rfl (by decide) ?_
    refine r_getI 0 d_Van_count_56 fk_Van_154 rfl rfl rfl ?_
    rw [h1.2.1]
    refine q_iret d_Van_count_59 rfl ?_
    exact fin_ok hI (by omega) hk VF.rf (by unfold sp_count; (repeat (first | rw [if_pos (by omega)] | rw [if_neg (by omega)])); (try rfl))
  · refine r_tableIn (off := 59) 60 d_Van_count_1 (by omega) (by omega) (by omega) (by rw [t2]; rfl) rfl ?_
    refine r_aload_n 0 d_Van_count_60 rfl rfl ?_
    refine r_getR 9 d_Van_count_61 fk_Van_37 rfl rfl rfl (by decide) ?_
    refine r_getI 0 d_Van_count_64 fk_Van_134 rfl rfl rfl ?_
    refine r_aload_n 0 d_Van_count_67 rfl rfl ?_
    refine r_getR 39 d_Van_count_68 fk_Van_46 rfl rfl rfl (by decide) ?_
    refine r_cVP 1 d_Van_count_71 lk_Van_238 vc_Plan_size (ct_size pl39 hQ) rfl rfl rfl rfl ⟨Nat.le_of_ble_eq_true rfl, Nat.le_of_ble_eq_true rfl⟩ ⟨Nat.zero_le _, Nat.zero_le _⟩ (Nat.le_of_ble_eq_true rfl) ?_
    rw [h1.1]
    refine r_isub d_Van_count_74 ?_
    refine q_iret d_Van_count_75 rfl ?_
    exact fin_ok hI (by omega) hk VF.rf (by unfold sp_count; (repeat (first | rw [if_pos (by omega)] | rw [if_neg (by omega)])); (try rfl))
  · refine r_tableIn (off := 75) 76 d_Van_count_1 (by omega) (by omega) (by omega) (by rw [t3]; rfl) rfl ?_
    refine r_aload_n 0 d_Van_count_76 rfl rfl ?_
    refine r_getR 9 d_Van_count_77 fk_Van_37 rfl rfl rfl (by decide) ?_
    refine r_cVP 3 d_Van_count_80 lk_Van_266 vc_Stops_musts (ct_musts h1 k1) rfl rfl rfl rfl ⟨Nat.le_of_ble_eq_true rfl, Nat.le_of_ble_eq_true rfl⟩ ⟨Nat.zero_le _, Nat.zero_le _⟩ (Nat.le_of_ble_eq_true rfl) ?_
    refine r_aload_n 0 d_Van_count_83 rfl rfl ?_
    refine r_getR 2 d_Van_count_84 fk_Van_25 rfl rfl rfl (by decide) ?_
    refine r_aload_n 0 d_Van_count_87 rfl rfl ?_
    refine r_getR 39 d_Van_count_88 fk_Van_46 rfl rfl rfl (by decide) ?_
    refine r_cVP 5 d_Van_count_91 lk_Van_269 vc_Trip_mustsIn (ct_mustsIn h1 k1 pl39 hQ hRV) rfl rfl rfl rfl ⟨Nat.le_of_ble_eq_true rfl, Nat.le_of_ble_eq_true rfl⟩ ⟨Nat.zero_le _, Nat.zero_le _⟩ (Nat.le_of_ble_eq_true rfl) ?_
    refine r_isub d_Van_count_94 ?_
    refine q_iret d_Van_count_95 rfl ?_
    exact fin_ok hI (by omega) hk VF.rf (by unfold sp_count; (repeat (first | rw [if_pos (by omega)] | rw [if_neg (by omega)])); (try rfl))
  · refine r_tableIn (off := 95) 96 d_Van_count_1 (by omega) (by omega) (by omega) (by rw [t4]; rfl) rfl ?_
    refine r_aload_n 0 d_Van_count_96 rfl rfl ?_
    refine r_getR 45 d_Van_count_97 fk_Van_52 rfl rfl rfl (by decide) ?_
    refine r_getI 2 d_Van_count_100 fk_Van_257 rfl rfl rfl ?_
    rw [hU.1]
    refine q_iret d_Van_count_103 rfl ?_
    exact fin_ok hI (by omega) hk VF.rf (by unfold sp_count; (repeat (first | rw [if_pos (by omega)] | rw [if_neg (by omega)])); (try rfl))
  · refine r_tableIn (off := 103) 104 d_Van_count_1 (by omega) (by omega) (by omega) (by rw [t5]; rfl) rfl ?_
    refine r_aload_n 0 d_Van_count_104 rfl rfl ?_
    refine r_cVI 7 d_Van_count_105 lk_Van_272 vc_Van_totalWaiting (ct_totalWaiting hI hB hk) rfl rfl rfl rfl ⟨Nat.le_of_ble_eq_true rfl, Nat.le_of_ble_eq_true rfl⟩ ⟨Nat.zero_le _, Nat.zero_le _⟩ (Nat.le_of_ble_eq_true rfl) (fun r105 s105 q105 => ?_)
    obtain ⟨e, hT2, hJ⟩ := q105
    have hI2 := hI.keep hJ.pf hT2
    refine q_iret d_Van_count_108 rfl ?_
    exact fin_ok hI2 (by omega) hk hJ.vf (by rw [e]; unfold sp_count; (repeat (first | rw [if_pos (by omega)] | rw [if_neg (by omega)])); (try rfl))
  · refine r_tableIn (off := 108) 109 d_Van_count_1 (by omega) (by omega) (by omega) (by rw [t6]; rfl) rfl ?_
    refine r_aload_n 0 d_Van_count_109 rfl rfl ?_
    refine r_cVI 7 d_Van_count_110 lk_Van_275 vc_Van_totalLateness (ct_totalLateness hI hB hk) rfl rfl rfl rfl ⟨Nat.le_of_ble_eq_true rfl, Nat.le_of_ble_eq_true rfl⟩ ⟨Nat.zero_le _, Nat.zero_le _⟩ (Nat.le_of_ble_eq_true rfl) (fun r110 s110 q110 => ?_)
    obtain ⟨e, hT2, hJ⟩ := q110
    have hI2 := hI.keep hJ.pf hT2
    refine q_iret d_Van_count_113 rfl ?_
    exact fin_ok hI2 (by omega) hk hJ.vf (by rw [e]; unfold sp_count; (repeat (first | rw [if_pos (by omega)] | rw [if_neg (by omega)])); (try rfl))
  · refine r_tableOut 114 d_Van_count_1 (by omega) (by omega) rfl ?_
    refine r_aload_n 0 d_Van_count_114 rfl rfl ?_
    refine r_bipush d_Van_count_115 (by decide) ?_
    refine r_cVI 7 d_Van_count_117 lk_Van_74 vc_Van_refuse (ct_refuse (by omega)) rfl rfl rfl rfl ⟨Nat.le_of_ble_eq_true rfl, Nat.le_of_ble_eq_true rfl⟩ ⟨Nat.zero_le _, Nat.zero_le _⟩ (Nat.le_of_ble_eq_true rfl) (fun r117 s117 q117 => ?_)
    have q := q117
    refine q_iret d_Van_count_120 rfl ?_
    exact fin_no hI (by omega) hk VF.rf q (by unfold sp_count; (repeat (first | rw [if_pos (by omega)] | rw [if_neg (by omega)])); (try rfl))
theorem cv_lay {σ : sto} {g : G} {B v : Int} (hI : OI σ g B) (hB : B ≤ 3998) (hk : g.ok) (h_v : inR v) : CI M_Van_lay 14 [vR 0, vI v] σ (PV (sp_lay g v) σ B) := by
  obtain ⟨h1, hT, hQ, hU, h09, hrn, h010, hrf⟩ := id hI
  obtain ⟨k1, k2, k3, k4, k5, k6⟩ := id hk
  have hn := k1.1
  have hRV := k2.rv hn.1 hn.2.1
  refine ci_of [vR 0, vI v] fy_Van_lay.1 rfl (Nat.le_of_ble_eq_true rfl) ?_
  refine r_aload_n 0 d_Van_lay_0 rfl rfl ?_
  refine r_getR 18 d_Van_lay_1 fk_Van_42 rfl rfl rfl (by decide) ?_
  refine r_iload_n 1 d_Van_lay_4 rfl rfl ?_
  refine r_cVI 6 d_Van_lay_5 lk_Van_163 vc_Vans_has (ct_hasV h1 k1 (by omega)) rfl rfl rfl rfl ⟨Nat.le_of_ble_eq_true rfl, Nat.le_of_ble_eq_true rfl⟩ ⟨Nat.zero_le _, Nat.zero_le _⟩ (Nat.le_of_ble_eq_true rfl) (fun r5 s5 q5 => ?_)
  obtain ⟨q5, hs5⟩ := q5
  have hs5 := hs5.symm
  subst hs5
  refine r_if_ne 18 d_Van_lay_8 rfl (by omega) (fun h8 => ?_) (fun h8 => ?_)
  · refine r_aload_n 0 d_Van_lay_18 rfl rfl ?_
    refine r_getR 2 d_Van_lay_19 fk_Van_25 rfl rfl rfl (by decide) ?_
    refine r_aload_n 0 d_Van_lay_22 rfl rfl ?_
    refine r_getR 39 d_Van_lay_23 fk_Van_46 rfl rfl rfl (by decide) ?_
    refine r_iload_n 1 d_Van_lay_26 rfl rfl ?_
    refine r_cVI 5 d_Van_lay_27 lk_Van_185 vc_Trip_judge (ct_judge h1 k1 hT (by omega) pl39 hQ (by omega) (by omega) (hRV v (by omega) (by omega))) rfl rfl rfl rfl ⟨Nat.le_of_ble_eq_true rfl, Nat.le_of_ble_eq_true rfl⟩ ⟨Nat.zero_le _, Nat.zero_le _⟩ (Nat.le_of_ble_eq_true rfl) (fun r27 s27 q27 => ?_)
    obtain ⟨e7, ew, hT2, hJ, hN⟩ := q27
    have hN := hN (by rw [e7]; exact k3 v (by omega) (by omega))
    have hI2 := hI.keep hJ.pf hT2
    have hz := hI2.2.2.1.len (v := v) (by omega) (by omega)
    rw [show (39 : Int) + 5 = 44 from rfl] at hz
    refine r_pop d_Van_lay_30 rfl ?_
    refine r_aload_n 0 d_Van_lay_31 rfl rfl ?_
    refine r_aload_n 0 d_Van_lay_32 rfl rfl ?_
    refine r_getR 39 d_Van_lay_33 fk_Van_46 rfl rfl rfl (by decide) ?_
    refine r_getR 44 d_Van_lay_36 fk_Van_178 rfl rfl rfl (by decide) ?_
    refine r_iload_n 1 d_Van_lay_39 rfl rfl ?_
    refine r_iald 3 d_Van_lay_40 rfl rfl (by omega) (by omega) ?_
    rw [hz.1]
    refine r_putI 9 d_Van_lay_41 fk_Van_60 rfl rfl rfl (Or.inl rfl) ?_
    refine r_aload_n 0 d_Van_lay_44 rfl rfl ?_
    refine r_getR 2 d_Van_lay_45 fk_Van_25 rfl rfl rfl (by decide) ?_
    refine r_getR 24 d_Van_lay_48 fk_Van_195 rfl rfl rfl (by decide) ?_
    refine r_iconst d_Van_lay_51 ?_
    refine r_aload_n 0 d_Van_lay_52 rfl rfl ?_
    refine r_getR 167 d_Van_lay_53 fk_Van_56 rfl rfl rfl (by decide) ?_
    refine r_iconst d_Van_lay_56 ?_
    refine r_aload_n 0 d_Van_lay_57 rfl rfl ?_
    refine r_getI 9 d_Van_lay_58 fk_Van_60 rfl rfl rfl ?_
    rw [wr_eq]
    refine r_copy 12 12 d_Van_lay_61 lk_Van_278 rfl rfl rfl rfl (by omega) (by omega) (by omega) (by omega) (by omega) (Nat.le_of_ble_eq_true rfl) (Nat.le_of_ble_eq_true rfl) ?_
    refine r_aload_n 0 d_Van_lay_64 rfl rfl ?_
    refine r_getI 9 d_Van_lay_65 fk_Van_60 rfl rfl rfl ?_
    rw [cpy_ne (by omega), wr_eq]
    refine q_iret d_Van_lay_68 rfl ?_
    refine fin_ok (g' := g.row (ln (g.P v)) (bg g.D v (g.P v))) (B1 := B) ?_ (by omega) ⟨k1, k2, k3, k4, k5, by show -1 ≤ ln (g.P v) ∧ ln (g.P v) ≤ 12; omega⟩ (hJ.vf.tr (fun c i q => by rw [cpy_ne (by omega), wr_ne (by omega)])) (by unfold sp_lay; (repeat (first | rw [if_pos (by omega)] | rw [if_neg (by omega)])); (try rfl))
    obtain ⟨z1, z2, z3, z4, z5, z6, z7, z8⟩ := hI2
    refine ⟨z1.keep (fun c i q => by rw [cpy_ne (by omega), wr_ne (by omega)]), z2.keep (fun c i q => by rw [cpy_ne (by omega), wr_ne (by omega)]), z3.same (fun c i c0 c1 => by rw [cpy_ne (by omega), wr_ne (by omega)]), z4.keep (fun c i c0 c1 => by rw [cpy_ne (by omega), wr_ne (by omega)]), by rw [cpy_ne (by omega), wr_eq], fun i i0 i1 => ?_, by rw [cpy_ne (by omega), wr_ne (by omega)]; exact z7, fun k k0 k1 => by rw [cpy_ne (by omega), wr_ne (by omega)]; exact z8 k k0 k1⟩
    have i1 : i < ln (g.P v) := i1
    rw [cpy_in i0 (by omega), wr_ne (by omega), show (0 : Int) + (i - 0) = i by omega]
    exact ((hN.2.2.2 (by omega)).2 i i0 i1).2.1
  · refine r_aload_n 0 d_Van_lay_11 rfl rfl ?_
    refine r_bipush d_Van_lay_12 (by decide) ?_
    refine r_cVI 7 d_Van_lay_14 lk_Van_74 vc_Van_refuse (ct_refuse (by omega)) rfl rfl rfl rfl ⟨Nat.le_of_ble_eq_true rfl, Nat.le_of_ble_eq_true rfl⟩ ⟨Nat.zero_le _, Nat.zero_le _⟩ (Nat.le_of_ble_eq_true rfl) (fun r14 s14 q14 => ?_)
    have q := q14
    refine q_iret d_Van_lay_17 rfl ?_
    exact fin_no hI (by omega) hk VF.rf q (by unfold sp_lay; (repeat (first | rw [if_pos (by omega)] | rw [if_neg (by omega)])); (try rfl))
theorem cv_tear {σ : sto} {g : G} {B : Int} (hI : OI σ g B) (hB : B ≤ 3998) (hk : g.ok)  : CI M_Van_tear 14 [vR 0] σ (PV (sp_tear g) σ B) := by
  obtain ⟨h1, hT, hQ, hU, h09, hrn, h010, hrf⟩ := id hI
  obtain ⟨k1, k2, k3, k4, k5, k6⟩ := id hk
  have hn := k1.1
  have hRV := k2.rv hn.1 hn.2.1
  refine ci_of [vR 0] fy_Van_tear.1 rfl (Nat.le_of_ble_eq_true rfl) ?_
  refine r_aload_n 0 d_Van_tear_0 rfl rfl ?_
  refine r_getI 9 d_Van_tear_1 fk_Van_60 rfl rfl rfl ?_
  refine r_iconst d_Van_tear_4 ?_
  rw [h09]
  refine r_icmp_ne 10 d_Van_tear_5 rfl (by omega) (by omega) (fun h5 => ?_) (fun h5 => ?_)
  · refine r_aload_n 0 d_Van_tear_10 rfl rfl ?_
    refine r_iconst d_Van_tear_11 ?_
    refine r_putI 9 d_Van_tear_12 fk_Van_60 rfl rfl rfl (Or.inl rfl) ?_
    refine r_iconst d_Van_tear_15 ?_
    refine q_iret d_Van_tear_16 rfl ?_
    refine fin_ok (g' := g.row (-1) g.rn) (B1 := B) ?_ (by omega) ⟨k1, k2, k3, k4, k5, by show -1 ≤ (-1 : Int) ∧ (-1 : Int) ≤ 12; omega⟩ (fun c i q => wr_ne (by omega)) (by unfold sp_tear; (repeat (first | rw [if_pos (by omega)] | rw [if_neg (by omega)])); (try rfl))
    exact ⟨h1.keep (fun c i q => wr_ne (by omega)), hT.keep (fun c i q => wr_ne (by omega)), hQ.same (fun c i c0 c1 => wr_ne (by omega)), hU.keep (fun c i c0 c1 => wr_ne (by omega)), wr_eq, fun i i0 i1 => (by have i1 : i < -1 := i1; omega), by rw [wr_ne (by omega)]; exact h010, fun k k0 k1 => by rw [wr_ne (by omega)]; exact hrf k k0 k1⟩
  · refine r_iconst d_Van_tear_8 ?_
    refine q_iret d_Van_tear_9 rfl ?_
    exact fin_ok hI (by omega) hk VF.rf (by unfold sp_tear; (repeat (first | rw [if_pos (by omega)] | rw [if_neg (by omega)])); (try rfl))
theorem cv_row {σ : sto} {g : G} {B i : Int} (hI : OI σ g B) (hB : B ≤ 3998) (hk : g.ok) (h_i : inR i) : CI M_Van_row 14 [vR 0, vI i] σ (PV (sp_row g i) σ B) := by
  obtain ⟨h1, hT, hQ, hU, h09, hrn, h010, hrf⟩ := id hI
  obtain ⟨k1, k2, k3, k4, k5, k6⟩ := id hk
  have hn := k1.1
  have hRV := k2.rv hn.1 hn.2.1
  refine ci_of [vR 0, vI i] fy_Van_row.1 rfl (Nat.le_of_ble_eq_true rfl) ?_
  refine r_aload_n 0 d_Van_row_0 rfl rfl ?_
  refine r_getI 9 d_Van_row_1 fk_Van_60 rfl rfl rfl ?_
  refine r_iconst d_Van_row_4 ?_
  rw [h09]
  refine r_icmp_ne 15 d_Van_row_5 rfl (by omega) (by omega) (fun h5 => ?_) (fun h5 => ?_)
  · refine r_iload_n 1 d_Van_row_15 rfl rfl ?_
    refine r_if_lt 27 d_Van_row_16 rfl (by omega) (fun h16 => ?_) (fun h16 => ?_)
    · refine r_aload_n 0 d_Van_row_27 rfl rfl ?_
      refine r_bipush d_Van_row_28 (by decide) ?_
      refine r_cVI 7 d_Van_row_30 lk_Van_74 vc_Van_refuse (ct_refuse (by omega)) rfl rfl rfl rfl ⟨Nat.le_of_ble_eq_true rfl, Nat.le_of_ble_eq_true rfl⟩ ⟨Nat.zero_le _, Nat.zero_le _⟩ (Nat.le_of_ble_eq_true rfl) (fun r30 s30 q30 => ?_)
      have q := q30
      refine q_iret d_Van_row_33 rfl ?_
      exact fin_no hI (by omega) hk VF.rf q (by unfold sp_row; (repeat (first | rw [if_pos (by omega)] | rw [if_neg (by omega)])); (try rfl))
    · refine r_iload_n 1 d_Van_row_19 rfl rfl ?_
      refine r_aload_n 0 d_Van_row_20 rfl rfl ?_
      refine r_getI 9 d_Van_row_21 fk_Van_60 rfl rfl rfl ?_
      rw [h09]
      refine r_icmp_lt 34 d_Van_row_24 rfl (by omega) (by omega) (fun h24 => ?_) (fun h24 => ?_)
      · refine r_aload_n 0 d_Van_row_34 rfl rfl ?_
        refine r_getR 167 d_Van_row_35 fk_Van_56 rfl rfl rfl (by decide) ?_
        refine r_iload_n 1 d_Van_row_38 rfl rfl ?_
        refine r_iald 12 d_Van_row_39 rfl rfl (by omega) (by omega) ?_
        rw [hrn i (by omega) (by omega)]
        refine q_iret d_Van_row_40 rfl ?_
        exact fin_ok hI (by omega) hk VF.rf (by unfold sp_row; (repeat (first | rw [if_pos (by omega)] | rw [if_neg (by omega)])); (try rfl))
      · refine r_aload_n 0 d_Van_row_27 rfl rfl ?_
        refine r_bipush d_Van_row_28 (by decide) ?_
        refine r_cVI 7 d_Van_row_30 lk_Van_74 vc_Van_refuse (ct_refuse (by omega)) rfl rfl rfl rfl ⟨Nat.le_of_ble_eq_true rfl, Nat.le_of_ble_eq_true rfl⟩ ⟨Nat.zero_le _, Nat.zero_le _⟩ (Nat.le_of_ble_eq_true rfl) (fun r30 s30 q30 => ?_)
        have q := q30
        refine q_iret d_Van_row_33 rfl ?_
        exact fin_no hI (by omega) hk VF.rf q (by unfold sp_row; (repeat (first | rw [if_pos (by omega)] | rw [if_neg (by omega)])); (try rfl))
  · refine r_aload_n 0 d_Van_row_8 rfl rfl ?_
    refine r_bipush d_Van_row_9 (by decide) ?_
    refine r_cVI 7 d_Van_row_11 lk_Van_74 vc_Van_refuse (ct_refuse (by omega)) rfl rfl rfl rfl ⟨Nat.le_of_ble_eq_true rfl, Nat.le_of_ble_eq_true rfl⟩ ⟨Nat.zero_le _, Nat.zero_le _⟩ (Nat.le_of_ble_eq_true rfl) (fun r11 s11 q11 => ?_)
    have q := q11
    refine q_iret d_Van_row_14 rfl ?_
    exact fin_no hI (by omega) hk VF.rf q (by unfold sp_row; (repeat (first | rw [if_pos (by omega)] | rw [if_neg (by omega)])); (try rfl))
theorem cv_copy {σ : sto} {g : G} {B i j n : Int} (hI : OI σ g B) (hB : B ≤ 3998) (hk : g.ok) (h_i : inR i) (h_j : inR j) (h_n : inR n) : CI M_Van_copy 14 [vR 0, vI i, vI j, vI n] σ (PV (sp_copy g i j n) σ B) := by
  obtain ⟨h1, hT, hQ, hU, h09, hrn, h010, hrf⟩ := id hI
  obtain ⟨k1, k2, k3, k4, k5, k6⟩ := id hk
  have hn := k1.1
  have hRV := k2.rv hn.1 hn.2.1
  refine ci_of [vR 0, vI i, vI j, vI n] fy_Van_copy.1 rfl (Nat.le_of_ble_eq_true rfl) ?_
  refine r_aload_n 0 d_Van_copy_0 rfl rfl ?_
  refine r_getI 9 d_Van_copy_1 fk_Van_60 rfl rfl rfl ?_
  refine r_iconst d_Van_copy_4 ?_
  rw [h09]
  refine r_icmp_ne 15 d_Van_copy_5 rfl (by omega) (by omega) (fun h5 => ?_) (fun h5 => ?_)
  · refine r_iload_n 3 d_Van_copy_15 rfl rfl ?_
    refine r_if_ge 26 d_Van_copy_16 rfl (by omega) (fun h16 => ?_) (fun h16 => ?_)
    · refine r_iload_n 1 d_Van_copy_26 rfl rfl ?_
      refine r_if_lt 34 d_Van_copy_27 rfl (by omega) (fun h27 => ?_) (fun h27 => ?_)
      · refine r_aload_n 0 d_Van_copy_34 rfl rfl ?_
        refine r_bipush d_Van_copy_35 (by decide) ?_
        refine r_cVI 7 d_Van_copy_37 lk_Van_74 vc_Van_refuse (ct_refuse (by omega)) rfl rfl rfl rfl ⟨Nat.le_of_ble_eq_true rfl, Nat.le_of_ble_eq_true rfl⟩ ⟨Nat.zero_le _, Nat.zero_le _⟩ (Nat.le_of_ble_eq_true rfl) (fun r37 s37 q37 => ?_)
        have q := q37
        refine q_iret d_Van_copy_40 rfl ?_
        exact fin_no hI (by omega) hk VF.rf q (by unfold sp_copy; (repeat (first | rw [if_pos (by omega)] | rw [if_neg (by omega)])); (try rfl))
      · refine r_iload_n 2 d_Van_copy_30 rfl rfl ?_
        refine r_if_ge 41 d_Van_copy_31 rfl (by omega) (fun h31 => ?_) (fun h31 => ?_)
        · have c1 := cmpI_c (i + n) g.rs
          have c2 := cmpI_c (j + n) g.rs
          refine r_iload_n 1 d_Van_copy_41 rfl rfl ?_
          refine r_i2l d_Van_copy_42 (by omega) ?_
          refine r_iload_n 3 d_Van_copy_43 rfl rfl ?_
          refine r_i2l d_Van_copy_44 (by omega) ?_
          refine r_ladd d_Van_copy_45 ?_
          refine r_aload_n 0 d_Van_copy_46 rfl rfl ?_
          refine r_getI 9 d_Van_copy_47 fk_Van_60 rfl rfl rfl ?_
          rw [h09]
          refine r_i2l d_Van_copy_50 (by omega) ?_
          refine r_lcmp d_Van_copy_51 (by omega) (by omega) ?_
          refine r_if_gt 69 d_Van_copy_52 rfl (by omega) (fun h52 => ?_) (fun h52 => ?_)
          · refine r_aload_n 0 d_Van_copy_69 rfl rfl ?_
            refine r_bipush d_Van_copy_70 (by decide) ?_
            refine r_cVI 7 d_Van_copy_72 lk_Van_74 vc_Van_refuse (ct_refuse (by omega)) rfl rfl rfl rfl ⟨Nat.le_of_ble_eq_true rfl, Nat.le_of_ble_eq_true rfl⟩ ⟨Nat.zero_le _, Nat.zero_le _⟩ (Nat.le_of_ble_eq_true rfl) (fun r72 s72 q72 => ?_)
            have q := q72
            refine q_iret d_Van_copy_75 rfl ?_
            exact fin_no hI (by omega) hk VF.rf q (by unfold sp_copy; (repeat (first | rw [if_pos (by omega)] | rw [if_neg (by omega)])); (try rfl))
          · refine r_iload_n 2 d_Van_copy_55 rfl rfl ?_
            refine r_i2l d_Van_copy_56 (by omega) ?_
            refine r_iload_n 3 d_Van_copy_57 rfl rfl ?_
            refine r_i2l d_Van_copy_58 (by omega) ?_
            refine r_ladd d_Van_copy_59 ?_
            refine r_aload_n 0 d_Van_copy_60 rfl rfl ?_
            refine r_getI 9 d_Van_copy_61 fk_Van_60 rfl rfl rfl ?_
            rw [h09]
            refine r_i2l d_Van_copy_64 (by omega) ?_
            refine r_lcmp d_Van_copy_65 (by omega) (by omega) ?_
            refine r_if_le 76 d_Van_copy_66 rfl (by omega) (fun h66 => ?_) (fun h66 => ?_)
            · refine r_aload_n 0 d_Van_copy_76 rfl rfl ?_
              refine r_getR 167 d_Van_copy_77 fk_Van_56 rfl rfl rfl (by decide) ?_
              refine r_iload_n 1 d_Van_copy_80 rfl rfl ?_
              refine r_aload_n 0 d_Van_copy_81 rfl rfl ?_
              refine r_getR 167 d_Van_copy_82 fk_Van_56 rfl rfl rfl (by decide) ?_
              refine r_iload_n 2 d_Van_copy_85 rfl rfl ?_
              refine r_iload_n 3 d_Van_copy_86 rfl rfl ?_
              refine r_copy 12 12 d_Van_copy_87 lk_Van_278 rfl rfl rfl rfl (by omega) (by omega) (by omega) (by omega) (by omega) (Nat.le_of_ble_eq_true rfl) (Nat.le_of_ble_eq_true rfl) ?_
              refine r_iload_n 3 d_Van_copy_90 rfl rfl ?_
              refine q_iret d_Van_copy_91 rfl ?_
              refine fin_ok (g' := g.row g.rs (fun k => if j ≤ k ∧ k < j + n then g.rn (k - j + i) else g.rn k)) (B1 := B) ?_ (by omega) hk (fun c i q => cpy_ne (by omega)) (by unfold sp_copy; (repeat (first | rw [if_pos (by omega)] | rw [if_neg (by omega)])); (try rfl))
              refine ⟨h1.keep (fun c i q => cpy_ne (by omega)), hT.keep (fun c i q => cpy_ne (by omega)), hQ.same (fun c i c0 c1 => cpy_ne (by omega)), hU.keep (fun c i c0 c1 => cpy_ne (by omega)), by rw [cpy_ne (by omega)]; exact h09, fun k k0 k1 => ?_, by rw [cpy_ne (by omega)]; exact h010, fun k k0 k1 => by rw [cpy_ne (by omega)]; exact hrf k k0 k1⟩
              have k1 : k < g.rs := k1
              show _ = if j ≤ k ∧ k < j + n then g.rn (k - j + i) else g.rn k
              by_cases e : j ≤ k ∧ k < j + n
              · rw [if_pos e, cpy_in e.1 e.2, hrn _ (by omega) (by omega), show i + (k - j) = k - j + i by omega]
              · rw [if_neg e, cpy_ne (by omega)]; exact hrn k k0 k1
            · refine r_aload_n 0 d_Van_copy_69 rfl rfl ?_
              refine r_bipush d_Van_copy_70 (by decide) ?_
              refine r_cVI 7 d_Van_copy_72 lk_Van_74 vc_Van_refuse (ct_refuse (by omega)) rfl rfl rfl rfl ⟨Nat.le_of_ble_eq_true rfl, Nat.le_of_ble_eq_true rfl⟩ ⟨Nat.zero_le _, Nat.zero_le _⟩ (Nat.le_of_ble_eq_true rfl) (fun r72 s72 q72 => ?_)
              have q := q72
              refine q_iret d_Van_copy_75 rfl ?_
              exact fin_no hI (by omega) hk VF.rf q (by unfold sp_copy; (repeat (first | rw [if_pos (by omega)] | rw [if_neg (by omega)])); (try rfl))
        · refine r_aload_n 0 d_Van_copy_34 rfl rfl ?_
          refine r_bipush d_Van_copy_35 (by decide) ?_
          refine r_cVI 7 d_Van_copy_37 lk_Van_74 vc_Van_refuse (ct_refuse (by omega)) rfl rfl rfl rfl ⟨Nat.le_of_ble_eq_true rfl, Nat.le_of_ble_eq_true rfl⟩ ⟨Nat.zero_le _, Nat.zero_le _⟩ (Nat.le_of_ble_eq_true rfl) (fun r37 s37 q37 => ?_)
          have q := q37
          refine q_iret d_Van_copy_40 rfl ?_
          exact fin_no hI (by omega) hk VF.rf q (by unfold sp_copy; (repeat (first | rw [if_pos (by omega)] | rw [if_neg (by omega)])); (try rfl))
    · refine r_aload_n 0 d_Van_copy_19 rfl rfl ?_
      refine r_bipush d_Van_copy_20 (by decide) ?_
      refine r_cVI 7 d_Van_copy_22 lk_Van_74 vc_Van_refuse (ct_refuse (by omega)) rfl rfl rfl rfl ⟨Nat.le_of_ble_eq_true rfl, Nat.le_of_ble_eq_true rfl⟩ ⟨Nat.zero_le _, Nat.zero_le _⟩ (Nat.le_of_ble_eq_true rfl) (fun r22 s22 q22 => ?_)
      have q := q22
      refine q_iret d_Van_copy_25 rfl ?_
      exact fin_no hI (by omega) hk VF.rf q (by unfold sp_copy; (repeat (first | rw [if_pos (by omega)] | rw [if_neg (by omega)])); (try rfl))
  · refine r_aload_n 0 d_Van_copy_8 rfl rfl ?_
    refine r_bipush d_Van_copy_9 (by decide) ?_
    refine r_cVI 7 d_Van_copy_11 lk_Van_74 vc_Van_refuse (ct_refuse (by omega)) rfl rfl rfl rfl ⟨Nat.le_of_ble_eq_true rfl, Nat.le_of_ble_eq_true rfl⟩ ⟨Nat.zero_le _, Nat.zero_le _⟩ (Nat.le_of_ble_eq_true rfl) (fun r11 s11 q11 => ?_)
    have q := q11
    refine q_iret d_Van_copy_14 rfl ?_
    exact fin_no hI (by omega) hk VF.rf q (by unfold sp_copy; (repeat (first | rw [if_pos (by omega)] | rw [if_neg (by omega)])); (try rfl))
theorem cv_status {σ : sto} {g : G} {B b : Int} (hI : OI σ g B) (hB : B ≤ 3998) (hk : g.ok) (h_b : inR b) : CI M_Van_status 14 [vR 0, vI b] σ (PV (sp_status g b) σ B) := by
  obtain ⟨h1, hT, hQ, hU, h09, hrn, h010, hrf⟩ := id hI
  obtain ⟨k1, k2, k3, k4, k5, k6⟩ := id hk
  have hn := k1.1
  have hRV := k2.rv hn.1 hn.2.1
  refine ci_of [vR 0, vI b] fy_Van_status.1 rfl (Nat.le_of_ble_eq_true rfl) ?_
  refine r_iload_n 1 d_Van_status_0 rfl rfl ?_
  refine r_bipush d_Van_status_1 (by decide) ?_
  refine r_icmp_gt 12 d_Van_status_3 rfl (by omega) (by omega) (fun h3 => ?_) (fun h3 => ?_)
  · refine r_aload_n 0 d_Van_status_12 rfl rfl ?_
    refine r_bipush d_Van_status_13 (by decide) ?_
    refine r_cVI 7 d_Van_status_15 lk_Van_74 vc_Van_refuse (ct_refuse (by omega)) rfl rfl rfl rfl ⟨Nat.le_of_ble_eq_true rfl, Nat.le_of_ble_eq_true rfl⟩ ⟨Nat.zero_le _, Nat.zero_le _⟩ (Nat.le_of_ble_eq_true rfl) (fun r15 s15 q15 => ?_)
    have q := q15
    refine q_iret d_Van_status_18 rfl ?_
    exact fin_no hI (by omega) hk VF.rf q (by unfold sp_status; (repeat (first | rw [if_pos (by omega)] | rw [if_neg (by omega)])); (try rfl))
  · refine r_iload_n 1 d_Van_status_6 rfl rfl ?_
    refine r_bipush d_Van_status_7 (by decide) ?_
    refine r_icmp_ge 19 d_Van_status_9 rfl (by omega) (by omega) (fun h9 => ?_) (fun h9 => ?_)
    · refine r_aload_n 0 d_Van_status_19 rfl rfl ?_
      refine r_getR 168 d_Van_status_20 fk_Van_67 rfl rfl rfl (by decide) ?_
      refine r_iload_n 1 d_Van_status_23 rfl rfl ?_
      refine r_ineg d_Van_status_24 ?_
      refine r_iald 9 d_Van_status_25 rfl rfl (by omega) (by omega) ?_
      rw [hrf (-b) (by omega) (by omega)]
      refine q_iret d_Van_status_26 rfl ?_
      exact fin_ok hI (by omega) hk VF.rf (by unfold sp_status; (repeat (first | rw [if_pos (by omega)] | rw [if_neg (by omega)])); (try rfl))
    · refine r_aload_n 0 d_Van_status_12 rfl rfl ?_
      refine r_bipush d_Van_status_13 (by decide) ?_
      refine r_cVI 7 d_Van_status_15 lk_Van_74 vc_Van_refuse (ct_refuse (by omega)) rfl rfl rfl rfl ⟨Nat.le_of_ble_eq_true rfl, Nat.le_of_ble_eq_true rfl⟩ ⟨Nat.zero_le _, Nat.zero_le _⟩ (Nat.le_of_ble_eq_true rfl) (fun r15 s15 q15 => ?_)
      have q := q15
      refine q_iret d_Van_status_18 rfl ?_
      exact fin_no hI (by omega) hk VF.rf q (by unfold sp_status; (repeat (first | rw [if_pos (by omega)] | rw [if_neg (by omega)])); (try rfl))
