-- THE CLASS: street, slow, stop (walks written by wip/whole/gen_str.py)
theorem cv_street {σ : sto} {g : G} {B a b m : Int} (hI : OI σ g B) (hB : B ≤ 3998) (hk : g.ok) (h_a : inR a) (h_b : inR b) (h_m : inR m) : CI M_Van_street 14 [vR 0, vI a, vI b, vI m] σ (PV (sp_street g a b m) σ B) := by
  obtain ⟨h1, hT, hQ, hU, h09, hrn, h010, hrf⟩ := id hI
  obtain ⟨k1, k2, k3, k4, k5, k6⟩ := id hk
  have hn := k1.1
  have hRV := k2.rv hn.1 hn.2.1
  refine ci_of [vR 0, vI a, vI b, vI m, vU] fy_Van_street.1 rfl (Nat.le_of_ble_eq_true rfl) ?_
  refine r_iload_n 1 d_Van_street_0 rfl rfl ?_
  refine r_cSI d_Van_street_1 lk_Van_70 sc_Van_isPlace (ct_isPlace (by omega)) rfl rfl ⟨Nat.le_of_ble_eq_true rfl, Nat.le_of_ble_eq_true rfl⟩ ⟨Nat.zero_le _, Nat.zero_le _⟩ (Nat.le_of_ble_eq_true rfl) (fun r1 s1 q1 => ?_)
  obtain ⟨q1, hs1⟩ := q1
  have hs1 := hs1.symm
  subst hs1
  refine r_if_eq 14 d_Van_street_4 rfl (by omega) (fun h4 => ?_) (fun h4 => ?_)
  · refine r_aload_n 0 d_Van_street_14 rfl rfl ?_
    refine r_bipush d_Van_street_15 (by decide) ?_
    refine r_cVI 7 d_Van_street_17 lk_Van_74 vc_Van_refuse (ct_refuse (by omega)) rfl rfl rfl rfl ⟨Nat.le_of_ble_eq_true rfl, Nat.le_of_ble_eq_true rfl⟩ ⟨Nat.zero_le _, Nat.zero_le _⟩ (Nat.le_of_ble_eq_true rfl) (fun r17 s17 q17 => ?_)
    have q := q17
    refine q_iret d_Van_street_20 rfl ?_
    exact fin_no hI (by omega) hk VF.rf q (by unfold sp_street; (repeat (first | rw [if_pos (by omega)] | rw [if_neg (by omega)])); (try rfl))
  · refine r_iload_n 2 d_Van_street_7 rfl rfl ?_
    refine r_cSI d_Van_street_8 lk_Van_70 sc_Van_isPlace (ct_isPlace (by omega)) rfl rfl ⟨Nat.le_of_ble_eq_true rfl, Nat.le_of_ble_eq_true rfl⟩ ⟨Nat.zero_le _, Nat.zero_le _⟩ (Nat.le_of_ble_eq_true rfl) (fun r8 s8 q8 => ?_)
    obtain ⟨q8, hs8⟩ := q8
    have hs8 := hs8.symm
    subst hs8
    refine r_if_ne 21 d_Van_street_11 rfl (by omega) (fun h11 => ?_) (fun h11 => ?_)
    · refine r_iload_n 3 d_Van_street_21 rfl rfl ?_
      refine r_if_lt 36 d_Van_street_22 rfl (by omega) (fun h22 => ?_) (fun h22 => ?_)
      · refine r_aload_n 0 d_Van_street_36 rfl rfl ?_
        refine r_bipush d_Van_street_37 (by decide) ?_
        refine r_cVI 7 d_Van_street_39 lk_Van_74 vc_Van_refuse (ct_refuse (by omega)) rfl rfl rfl rfl ⟨Nat.le_of_ble_eq_true rfl, Nat.le_of_ble_eq_true rfl⟩ ⟨Nat.zero_le _, Nat.zero_le _⟩ (Nat.le_of_ble_eq_true rfl) (fun r39 s39 q39 => ?_)
        have q := q39
        refine q_iret d_Van_street_42 rfl ?_
        exact fin_no hI (by omega) hk VF.rf q (by unfold sp_street; (repeat (first | rw [if_pos (by omega)] | rw [if_neg (by omega)])); (try rfl))
      · refine r_iload_n 3 d_Van_street_25 rfl rfl ?_
        refine r_bipush d_Van_street_26 (by decide) ?_
        refine r_icmp_gt 36 d_Van_street_28 rfl (by omega) (by omega) (fun h28 => ?_) (fun h28 => ?_)
        · refine r_aload_n 0 d_Van_street_36 rfl rfl ?_
          refine r_bipush d_Van_street_37 (by decide) ?_
          refine r_cVI 7 d_Van_street_39 lk_Van_74 vc_Van_refuse (ct_refuse (by omega)) rfl rfl rfl rfl ⟨Nat.le_of_ble_eq_true rfl, Nat.le_of_ble_eq_true rfl⟩ ⟨Nat.zero_le _, Nat.zero_le _⟩ (Nat.le_of_ble_eq_true rfl) (fun r39 s39 q39 => ?_)
          have q := q39
          refine q_iret d_Van_street_42 rfl ?_
          exact fin_no hI (by omega) hk VF.rf q (by unfold sp_street; (repeat (first | rw [if_pos (by omega)] | rw [if_neg (by omega)])); (try rfl))
        · refine r_iload_n 1 d_Van_street_31 rfl rfl ?_
          refine r_iload_n 2 d_Van_street_32 rfl rfl ?_
          refine r_icmp_ne 43 d_Van_street_33 rfl (by omega) (by omega) (fun h33 => ?_) (fun h33 => ?_)
          · have hso := k1.2.2.2.2 a b (by omega) (by omega) (by omega) (by omega)
            have hso2 := hso.2.1
            have htk : σ 4 ((a * 8 + b) * 8) = tk g.D a b 0 := by unfold tk; rw [Int.add_zero]; exact (h1.2.2.2.2.2 _ (by omega) (by omega)).symm
            have hti : 0 ≤ tk g.D a b 0 ∧ tk g.D a b 0 ≤ 99 := by rcases hso2 with q | q; (have := q 0 (by omega) (by omega); omega); (have := q 0 (by omega) (by omega); omega)
            refine r_aload_n 0 d_Van_street_43 rfl rfl ?_
            refine r_getR 3 d_Van_street_44 fk_Van_32 rfl rfl rfl (by decide) ?_
            refine r_iload_n 1 d_Van_street_47 rfl rfl ?_
            refine r_iload_n 2 d_Van_street_48 rfl rfl ?_
            refine r_cVI 4 d_Van_street_49 lk_Van_78 vc_Town_hasStreet (ct_hasStreet (by omega) (by omega) (by omega) (by omega) (by rw [htk]; omega)) rfl rfl rfl rfl ⟨Nat.le_of_ble_eq_true rfl, Nat.le_of_ble_eq_true rfl⟩ ⟨Nat.zero_le _, Nat.zero_le _⟩ (Nat.le_of_ble_eq_true rfl) (fun r49 s49 q49 => ?_)
            obtain ⟨q49, hs49⟩ := q49
            have hs49 := hs49.symm
            subst hs49
            rw [htk] at q49
            have e49 : r49 = 0 ∧ tk g.D a b 0 = 0 ∨ r49 = 1 ∧ tk g.D a b 0 ≠ 0 := by rw [q49]; split <;> omega
            refine r_if_eq 59 d_Van_street_52 rfl (by omega) (fun h52 => ?_) (fun h52 => ?_)
            · refine r_iconst d_Van_street_59 ?_
              refine r_istore 4 d_Van_street_60 (by decide) rfl ?_
              refine r_aload_n 0 d_Van_street_62 rfl rfl ?_
              refine r_getR 3 d_Van_street_63 fk_Van_32 rfl rfl rfl (by decide) ?_
              refine r_iload_n 1 d_Van_street_66 rfl rfl ?_
              refine r_iload_n 2 d_Van_street_67 rfl rfl ?_
              refine r_cVV 4 d_Van_street_68 lk_Van_84 vc_Town_remember (ct_remember (by omega) (by omega) (by omega) (by omega)) rfl rfl rfl rfl ⟨Nat.le_of_ble_eq_true rfl, Nat.le_of_ble_eq_true rfl⟩ ⟨Nat.zero_le _, Nat.zero_le _⟩ (Nat.le_of_ble_eq_true rfl) (fun s68 q68 => ?_)
              obtain ⟨m6, mF⟩ := q68
              have hCm := h1.keep (σ' := s68) (fun c i q => mF c i (by omega))
              have hTm := hT.keep (σ' := s68) (fun c i q => mF c i (by omega))
              refine r_aload_n 0 d_Van_street_71 rfl rfl ?_
              refine r_getR 3 d_Van_street_72 fk_Van_32 rfl rfl rfl (by decide) ?_
              refine r_iload_n 1 d_Van_street_75 rfl rfl ?_
              refine r_iload_n 2 d_Van_street_76 rfl rfl ?_
              refine r_iload_n 3 d_Van_street_77 rfl rfl ?_
              refine r_cVV 4 d_Van_street_78 lk_Van_88 vc_Town_setDay (ct_setDay k1.2.2.2.2 hCm.2.2.2.2.2 hTm (by omega) (by omega) (by omega) (by omega) (by omega) (by omega) (by omega)) rfl rfl rfl rfl ⟨Nat.le_of_ble_eq_true rfl, Nat.le_of_ble_eq_true rfl⟩ ⟨Nat.zero_le _, Nat.zero_le _⟩ (Nat.le_of_ble_eq_true rfl) (fun s78 q78 => ?_)
              obtain ⟨d4, hT1, dF⟩ := q78
              have hF1 : ∀ c i : Int, c ≠ 3 → c ≠ 4 → c ≠ 5 → c ≠ 6 → s78 c i = σ c i := fun c i z1 z2 z3 z4 => by rw [dF c i z1 z2 z3, mF c i z4]
              have hC1 : DC s78 (dST g.D a b (fun _ => m)) g.ns g.nv := h1.st (fun c i z1 z2 => hF1 c i (by omega) (by omega) (by omega) (by omega)) d4 (fun k i z => dST_ne z)
              have hS1 : SOK (dST g.D a b (fun _ => m)) := SOK_dST k1.2.2.2.2 (by omega) (by omega) (by omega) (by omega) (by omega) (by by_cases z : m = 0; (exact Or.inl (fun _ _ _ => z)); (exact Or.inr (fun _ _ _ => by omega)))
              have hO1 : DOK (dST g.D a b (fun _ => m)) g.ns g.nv := k1.st hS1 (fun k i z => dST_ne z)
              have hQ1 : PA s78 39 g.P := hQ.same (fun c i c0 c1 => hF1 c i (by omega) (by omega) (by omega) (by omega))
              have hK1 : KF σ s78 := fun c i z => hF1 c i (by omega) (by omega) (by omega) (by omega)
              refine r_aload_n 0 d_Van_street_81 rfl rfl ?_
              refine r_getR 2 d_Van_street_82 fk_Van_25 rfl rfl rfl (by decide) ?_
              refine r_aload_n 0 d_Van_street_85 rfl rfl ?_
              refine r_getR 39 d_Van_street_86 fk_Van_46 rfl rfl rfl (by decide) ?_
              refine r_cVI 5 d_Van_street_89 lk_Van_92 vc_Trip_total (ct_total hC1 hO1 hT1 (by omega) pl39 hQ1 hRV) rfl rfl rfl rfl ⟨Nat.le_of_ble_eq_true rfl, Nat.le_of_ble_eq_true rfl⟩ ⟨Nat.zero_le _, Nat.zero_le _⟩ (Nat.le_of_ble_eq_true rfl) (fun r89 s89 q89 => ?_)
              obtain ⟨e7, hT2, hJ⟩ := q89
              have hin := fun hz => tot_in hO1 hRV (show AF (dST g.D a b (fun _ => m)) g.nv g.P from hz) g.nv hn.2.2.1 (Int.le_refl _)
              have hrr : -1 ≤ r89 ∧ r89 ≤ 60000 * g.nv := e7.elim (fun q => by have := hin q.1; omega) (fun q => by omega)
              have hC2 := hJ.dc hC1
              have hK2 := hK1.tr hJ.kf
              have h6 : ∀ h, 0 ≤ h → h < 8 → s89 6 h = tk g.D a b h := fun h z0 z1 => by rw [hJ 6 h (by omega) (by omega) (by omega) (by omega), dF 6 h (by omega) (by omega) (by omega), m6 h z0 z1]; exact (h1.2.2.2.2.2 _ (by omega) (by omega)).symm
              refine r_iconst d_Van_street_92 ?_
              refine r_icmp_ne 112 d_Van_street_93 rfl (by omega) (by omega) (fun h93 => ?_) (fun h93 => ?_)
              · refine r_aload_n 0 d_Van_street_112 rfl rfl ?_
                refine r_getR 45 d_Van_street_113 fk_Van_52 rfl rfl rfl (by decide) ?_
                refine r_cVV 0 d_Van_street_116 lk_Van_99 vc_Past_forget ct_forget rfl rfl rfl rfl ⟨Nat.le_of_ble_eq_true rfl, Nat.le_of_ble_eq_true rfl⟩ ⟨Nat.zero_le _, Nat.zero_le _⟩ (Nat.le_of_ble_eq_true rfl) (fun s116 q116 => ?_)
                subst q116
                refine r_iload 4 d_Van_street_119 rfl ?_
                refine q_iret d_Van_street_121 rfl ?_
                have ea : AF (dST g.D a b (fun _ => m)) g.nv g.P := (e7.resolve_right (fun q => by omega)).1
                exact fin_eq (fin_data hI (show B + 1 ≤ B + 2 by omega) hk hK2 hC2 hT2 hO1 k2 ea) (by unfold sp_street; (repeat (first | rw [if_pos (by omega)] | rw [if_neg (by omega)])); (try rfl); unfold renew; rw [ifp_t ea])
              · refine r_aload_n 0 d_Van_street_96 rfl rfl ?_
                refine r_getR 3 d_Van_street_97 fk_Van_32 rfl rfl rfl (by decide) ?_
                refine r_iload_n 1 d_Van_street_100 rfl rfl ?_
                refine r_iload_n 2 d_Van_street_101 rfl rfl ?_
                refine r_cVV 4 d_Van_street_102 lk_Van_96 vc_Town_restore (ct_restore hS1 hC2.2.2.2.2.2 hT2 (by omega) (by omega) (by omega) (by omega) (by omega) (fun h z0 z1 => by rw [h6 h z0 z1]; rcases hso2 with z | z; (have := z h z0 z1; omega); (have := z h z0 z1; omega))) rfl rfl rfl rfl ⟨Nat.le_of_ble_eq_true rfl, Nat.le_of_ble_eq_true rfl⟩ ⟨Nat.zero_le _, Nat.zero_le _⟩ (Nat.le_of_ble_eq_true rfl) (fun s102 q102 => ?_)
                obtain ⟨c4, cT, cF⟩ := q102
                have eb := dST_back (f := fun _ => m) (g := s89 6) k1.2.2.2.2 (show 0 ≤ a by omega) (show a < 8 by omega) (show 0 ≤ b by omega) (show b < 8 by omega) h6
                rw [eb] at c4 cT
                have hC3 : DC s102 g.D g.ns g.nv := hC2.st (fun c i z1 z2 => cF c i (by omega) (by omega) (by omega)) c4 (fun k i z => (dST_ne z).symm)
                have hI3 := hI.back (hK2.tr (fun c i z => cF c i (by omega) (by omega) (by omega))) hC3 cT
                refine r_aload_n 0 d_Van_street_105 rfl rfl ?_
                refine r_bipush d_Van_street_106 (by decide) ?_
                refine r_cVI 7 d_Van_street_108 lk_Van_74 vc_Van_refuse (ct_refuse (by omega)) rfl rfl rfl rfl ⟨Nat.le_of_ble_eq_true rfl, Nat.le_of_ble_eq_true rfl⟩ ⟨Nat.zero_le _, Nat.zero_le _⟩ (Nat.le_of_ble_eq_true rfl) (fun r108 s108 q108 => ?_)
                have q := q108
                refine q_iret d_Van_street_111 rfl ?_
                have ea : ¬ AF (dST g.D a b (fun _ => m)) g.nv g.P := e7.elim (fun q => by have := hin q.1; omega) (fun q => q.1)
                exact fin_no hI3 (by omega) hk (hK2.vf.tr (fun c i z => cF c i (by omega) (by omega) (by omega))) q (by unfold sp_street; (repeat (first | rw [if_pos (by omega)] | rw [if_neg (by omega)])); (try rfl); unfold renew; rw [ifp_f ea])
            · refine r_iconst d_Van_street_55 ?_
              refine r_goto 60 d_Van_street_56 rfl ?_
              refine r_istore 4 d_Van_street_60 (by decide) rfl ?_
              refine r_aload_n 0 d_Van_street_62 rfl rfl ?_
              refine r_getR 3 d_Van_street_63 fk_Van_32 rfl rfl rfl (by decide) ?_
              refine r_iload_n 1 d_Van_street_66 rfl rfl ?_
              refine r_iload_n 2 d_Van_street_67 rfl rfl ?_
              refine r_cVV 4 d_Van_street_68 lk_Van_84 vc_Town_remember (ct_remember (by omega) (by omega) (by omega) (by omega)) rfl rfl rfl rfl ⟨Nat.le_of_ble_eq_true rfl, Nat.le_of_ble_eq_true rfl⟩ ⟨Nat.zero_le _, Nat.zero_le _⟩ (Nat.le_of_ble_eq_true rfl) (fun s68 q68 => ?_)
              obtain ⟨m6, mF⟩ := q68
              have hCm := h1.keep (σ' := s68) (fun c i q => mF c i (by omega))
              have hTm := hT.keep (σ' := s68) (fun c i q => mF c i (by omega))
              refine r_aload_n 0 d_Van_street_71 rfl rfl ?_
              refine r_getR 3 d_Van_street_72 fk_Van_32 rfl rfl rfl (by decide) ?_
              refine r_iload_n 1 d_Van_street_75 rfl rfl ?_
              refine r_iload_n 2 d_Van_street_76 rfl rfl ?_
              refine r_iload_n 3 d_Van_street_77 rfl rfl ?_
              refine r_cVV 4 d_Van_street_78 lk_Van_88 vc_Town_setDay (ct_setDay k1.2.2.2.2 hCm.2.2.2.2.2 hTm (by omega) (by omega) (by omega) (by omega) (by omega) (by omega) (by omega)) rfl rfl rfl rfl ⟨Nat.le_of_ble_eq_true rfl, Nat.le_of_ble_eq_true rfl⟩ ⟨Nat.zero_le _, Nat.zero_le _⟩ (Nat.le_of_ble_eq_true rfl) (fun s78 q78 => ?_)
              obtain ⟨d4, hT1, dF⟩ := q78
              have hF1 : ∀ c i : Int, c ≠ 3 → c ≠ 4 → c ≠ 5 → c ≠ 6 → s78 c i = σ c i := fun c i z1 z2 z3 z4 => by rw [dF c i z1 z2 z3, mF c i z4]
              have hC1 : DC s78 (dST g.D a b (fun _ => m)) g.ns g.nv := h1.st (fun c i z1 z2 => hF1 c i (by omega) (by omega) (by omega) (by omega)) d4 (fun k i z => dST_ne z)
              have hS1 : SOK (dST g.D a b (fun _ => m)) := SOK_dST k1.2.2.2.2 (by omega) (by omega) (by omega) (by omega) (by omega) (by by_cases z : m = 0; (exact Or.inl (fun _ _ _ => z)); (exact Or.inr (fun _ _ _ => by omega)))
              have hO1 : DOK (dST g.D a b (fun _ => m)) g.ns g.nv := k1.st hS1 (fun k i z => dST_ne z)
              have hQ1 : PA s78 39 g.P := hQ.same (fun c i c0 c1 => hF1 c i (by omega) (by omega) (by omega) (by omega))
              have hK1 : KF σ s78 := fun c i z => hF1 c i (by omega) (by omega) (by omega) (by omega)
              refine r_aload_n 0 d_Van_street_81 rfl rfl ?_
              refine r_getR 2 d_Van_street_82 fk_Van_25 rfl rfl rfl (by decide) ?_
              refine r_aload_n 0 d_Van_street_85 rfl rfl ?_
              refine r_getR 39 d_Van_street_86 fk_Van_46 rfl rfl rfl (by decide) ?_
              refine r_cVI 5 d_Van_street_89 lk_Van_92 vc_Trip_total (ct_total hC1 hO1 hT1 (by omega) pl39 hQ1 hRV) rfl rfl rfl rfl ⟨Nat.le_of_ble_eq_true rfl, Nat.le_of_ble_eq_true rfl⟩ ⟨Nat.zero_le _, Nat.zero_le _⟩ (Nat.le_of_ble_eq_true rfl) (fun r89 s89 q89 => ?_)
              obtain ⟨e7, hT2, hJ⟩ := q89
              have hin := fun hz => tot_in hO1 hRV (show AF (dST g.D a b (fun _ => m)) g.nv g.P from hz) g.nv hn.2.2.1 (Int.le_refl _)
              have hrr : -1 ≤ r89 ∧ r89 ≤ 60000 * g.nv := e7.elim (fun q => by have := hin q.1; omega) (fun q => by omega)
              have hC2 := hJ.dc hC1
              have hK2 := hK1.tr hJ.kf
              have h6 : ∀ h, 0 ≤ h → h < 8 → s89 6 h = tk g.D a b h := fun h z0 z1 => by rw [hJ 6 h (by omega) (by omega) (by omega) (by omega), dF 6 h (by omega) (by omega) (by omega), m6 h z0 z1]; exact (h1.2.2.2.2.2 _ (by omega) (by omega)).symm
              refine r_iconst d_Van_street_92 ?_
              refine r_icmp_ne 112 d_Van_street_93 rfl (by omega) (by omega) (fun h93 => ?_) (fun h93 => ?_)
              · refine r_aload_n 0 d_Van_street_112 rfl rfl ?_
                refine r_getR 45 d_Van_street_113 fk_Van_52 rfl rfl rfl (by decide) ?_
                refine r_cVV 0 d_Van_street_116 lk_Van_99 vc_Past_forget ct_forget rfl rfl rfl rfl ⟨Nat.le_of_ble_eq_true rfl, Nat.le_of_ble_eq_true rfl⟩ ⟨Nat.zero_le _, Nat.zero_le _⟩ (Nat.le_of_ble_eq_true rfl) (fun s116 q116 => ?_)
                subst q116
                refine r_iload 4 d_Van_street_119 rfl ?_
                refine q_iret d_Van_street_121 rfl ?_
                have ea : AF (dST g.D a b (fun _ => m)) g.nv g.P := (e7.resolve_right (fun q => by omega)).1
                exact fin_eq (fin_data hI (show B + 1 ≤ B + 2 by omega) hk hK2 hC2 hT2 hO1 k2 ea) (by unfold sp_street; (repeat (first | rw [if_pos (by omega)] | rw [if_neg (by omega)])); (try rfl); unfold renew; rw [ifp_t ea])
              · refine r_aload_n 0 d_Van_street_96 rfl rfl ?_
                refine r_getR 3 d_Van_street_97 fk_Van_32 rfl rfl rfl (by decide) ?_
                refine r_iload_n 1 d_Van_street_100 rfl rfl ?_
                refine r_iload_n 2 d_Van_street_101 rfl rfl ?_
                refine r_cVV 4 d_Van_street_102 lk_Van_96 vc_Town_restore (ct_restore hS1 hC2.2.2.2.2.2 hT2 (by omega) (by omega) (by omega) (by omega) (by omega) (fun h z0 z1 => by rw [h6 h z0 z1]; rcases hso2 with z | z; (have := z h z0 z1; omega); (have := z h z0 z1; omega))) rfl rfl rfl rfl ⟨Nat.le_of_ble_eq_true rfl, Nat.le_of_ble_eq_true rfl⟩ ⟨Nat.zero_le _, Nat.zero_le _⟩ (Nat.le_of_ble_eq_true rfl) (fun s102 q102 => ?_)
                obtain ⟨c4, cT, cF⟩ := q102
                have eb := dST_back (f := fun _ => m) (g := s89 6) k1.2.2.2.2 (show 0 ≤ a by omega) (show a < 8 by omega) (show 0 ≤ b by omega) (show b < 8 by omega) h6
                rw [eb] at c4 cT
                have hC3 : DC s102 g.D g.ns g.nv := hC2.st (fun c i z1 z2 => cF c i (by omega) (by omega) (by omega)) c4 (fun k i z => (dST_ne z).symm)
                have hI3 := hI.back (hK2.tr (fun c i z => cF c i (by omega) (by omega) (by omega))) hC3 cT
                refine r_aload_n 0 d_Van_street_105 rfl rfl ?_
                refine r_bipush d_Van_street_106 (by decide) ?_
                refine r_cVI 7 d_Van_street_108 lk_Van_74 vc_Van_refuse (ct_refuse (by omega)) rfl rfl rfl rfl ⟨Nat.le_of_ble_eq_true rfl, Nat.le_of_ble_eq_true rfl⟩ ⟨Nat.zero_le _, Nat.zero_le _⟩ (Nat.le_of_ble_eq_true rfl) (fun r108 s108 q108 => ?_)
                have q := q108
                refine q_iret d_Van_street_111 rfl ?_
                have ea : ¬ AF (dST g.D a b (fun _ => m)) g.nv g.P := e7.elim (fun q => by have := hin q.1; omega) (fun q => q.1)
                exact fin_no hI3 (by omega) hk (hK2.vf.tr (fun c i z => cF c i (by omega) (by omega) (by omega))) q (by unfold sp_street; (repeat (first | rw [if_pos (by omega)] | rw [if_neg (by omega)])); (try rfl); unfold renew; rw [ifp_f ea])
          · refine r_aload_n 0 d_Van_street_36 rfl rfl ?_
            refine r_bipush d_Van_street_37 (by decide) ?_
            refine r_cVI 7 d_Van_street_39 lk_Van_74 vc_Van_refuse (ct_refuse (by omega)) rfl rfl rfl rfl ⟨Nat.le_of_ble_eq_true rfl, Nat.le_of_ble_eq_true rfl⟩ ⟨Nat.zero_le _, Nat.zero_le _⟩ (Nat.le_of_ble_eq_true rfl) (fun r39 s39 q39 => ?_)
            have q := q39
            refine q_iret d_Van_street_42 rfl ?_
            exact fin_no hI (by omega) hk VF.rf q (by unfold sp_street; (repeat (first | rw [if_pos (by omega)] | rw [if_neg (by omega)])); (try rfl))
    · refine r_aload_n 0 d_Van_street_14 rfl rfl ?_
      refine r_bipush d_Van_street_15 (by decide) ?_
      refine r_cVI 7 d_Van_street_17 lk_Van_74 vc_Van_refuse (ct_refuse (by omega)) rfl rfl rfl rfl ⟨Nat.le_of_ble_eq_true rfl, Nat.le_of_ble_eq_true rfl⟩ ⟨Nat.zero_le _, Nat.zero_le _⟩ (Nat.le_of_ble_eq_true rfl) (fun r17 s17 q17 => ?_)
      have q := q17
      refine q_iret d_Van_street_20 rfl ?_
      exact fin_no hI (by omega) hk VF.rf q (by unfold sp_street; (repeat (first | rw [if_pos (by omega)] | rw [if_neg (by omega)])); (try rfl))
theorem cv_slow {σ : sto} {g : G} {B a b h m : Int} (hI : OI σ g B) (hB : B ≤ 3998) (hk : g.ok) (h_a : inR a) (h_b : inR b) (h_h : inR h) (h_m : inR m) : CI M_Van_slow 14 [vR 0, vI a, vI b, vI h, vI m] σ (PV (sp_slow g a b h m) σ B) := by
  obtain ⟨h1, hT, hQ, hU, h09, hrn, h010, hrf⟩ := id hI
  obtain ⟨k1, k2, k3, k4, k5, k6⟩ := id hk
  have hn := k1.1
  have hRV := k2.rv hn.1 hn.2.1
  refine ci_of [vR 0, vI a, vI b, vI h, vI m, vU] fy_Van_slow.1 rfl (Nat.le_of_ble_eq_true rfl) ?_
  refine r_iload_n 1 d_Van_slow_0 rfl rfl ?_
  refine r_cSI d_Van_slow_1 lk_Van_70 sc_Van_isPlace (ct_isPlace (by omega)) rfl rfl ⟨Nat.le_of_ble_eq_true rfl, Nat.le_of_ble_eq_true rfl⟩ ⟨Nat.zero_le _, Nat.zero_le _⟩ (Nat.le_of_ble_eq_true rfl) (fun r1 s1 q1 => ?_)
  obtain ⟨q1, hs1⟩ := q1
  have hs1 := hs1.symm
  subst hs1
  refine r_if_eq 24 d_Van_slow_4 rfl (by omega) (fun h4 => ?_) (fun h4 => ?_)
  · refine r_aload_n 0 d_Van_slow_24 rfl rfl ?_
    refine r_bipush d_Van_slow_25 (by decide) ?_
    refine r_cVI 7 d_Van_slow_27 lk_Van_74 vc_Van_refuse (ct_refuse (by omega)) rfl rfl rfl rfl ⟨Nat.le_of_ble_eq_true rfl, Nat.le_of_ble_eq_true rfl⟩ ⟨Nat.zero_le _, Nat.zero_le _⟩ (Nat.le_of_ble_eq_true rfl) (fun r27 s27 q27 => ?_)
    have q := q27
    refine q_iret d_Van_slow_30 rfl ?_
    exact fin_no hI (by omega) hk VF.rf q (by unfold sp_slow; (repeat (first | rw [if_pos (by omega)] | rw [if_neg (by omega)])); (try rfl))
  · refine r_iload_n 2 d_Van_slow_7 rfl rfl ?_
    refine r_cSI d_Van_slow_8 lk_Van_70 sc_Van_isPlace (ct_isPlace (by omega)) rfl rfl ⟨Nat.le_of_ble_eq_true rfl, Nat.le_of_ble_eq_true rfl⟩ ⟨Nat.zero_le _, Nat.zero_le _⟩ (Nat.le_of_ble_eq_true rfl) (fun r8 s8 q8 => ?_)
    obtain ⟨q8, hs8⟩ := q8
    have hs8 := hs8.symm
    subst hs8
    refine r_if_eq 24 d_Van_slow_11 rfl (by omega) (fun h11 => ?_) (fun h11 => ?_)
    · refine r_aload_n 0 d_Van_slow_24 rfl rfl ?_
      refine r_bipush d_Van_slow_25 (by decide) ?_
      refine r_cVI 7 d_Van_slow_27 lk_Van_74 vc_Van_refuse (ct_refuse (by omega)) rfl rfl rfl rfl ⟨Nat.le_of_ble_eq_true rfl, Nat.le_of_ble_eq_true rfl⟩ ⟨Nat.zero_le _, Nat.zero_le _⟩ (Nat.le_of_ble_eq_true rfl) (fun r27 s27 q27 => ?_)
      have q := q27
      refine q_iret d_Van_slow_30 rfl ?_
      exact fin_no hI (by omega) hk VF.rf q (by unfold sp_slow; (repeat (first | rw [if_pos (by omega)] | rw [if_neg (by omega)])); (try rfl))
    · refine r_iload_n 3 d_Van_slow_14 rfl rfl ?_
      refine r_if_lt 24 d_Van_slow_15 rfl (by omega) (fun h15 => ?_) (fun h15 => ?_)
      · refine r_aload_n 0 d_Van_slow_24 rfl rfl ?_
        refine r_bipush d_Van_slow_25 (by decide) ?_
        refine r_cVI 7 d_Van_slow_27 lk_Van_74 vc_Van_refuse (ct_refuse (by omega)) rfl rfl rfl rfl ⟨Nat.le_of_ble_eq_true rfl, Nat.le_of_ble_eq_true rfl⟩ ⟨Nat.zero_le _, Nat.zero_le _⟩ (Nat.le_of_ble_eq_true rfl) (fun r27 s27 q27 => ?_)
        have q := q27
        refine q_iret d_Van_slow_30 rfl ?_
        exact fin_no hI (by omega) hk VF.rf q (by unfold sp_slow; (repeat (first | rw [if_pos (by omega)] | rw [if_neg (by omega)])); (try rfl))
      · refine r_iload_n 3 d_Van_slow_18 rfl rfl ?_
        refine r_bipush d_Van_slow_19 (by decide) ?_
        refine r_icmp_lt 31 d_Van_slow_21 rfl (by omega) (by omega) (fun h21 => ?_) (fun h21 => ?_)
        · have hso := k1.2.2.2.2 a b (by omega) (by omega) (by omega) (by omega)
          have hso2 := hso.2.1
          have htk : σ 4 ((a * 8 + b) * 8) = tk g.D a b 0 := by unfold tk; rw [Int.add_zero]; exact (h1.2.2.2.2.2 _ (by omega) (by omega)).symm
          have hth : σ 4 ((a * 8 + b) * 8 + h) = tk g.D a b h := (h1.2.2.2.2.2 _ (by omega) (by omega)).symm
          have hti : 0 ≤ tk g.D a b 0 ∧ tk g.D a b 0 ≤ 99 := by rcases hso2 with q | q; (have := q 0 (by omega) (by omega); omega); (have := q 0 (by omega) (by omega); omega)
          refine r_aload_n 0 d_Van_slow_31 rfl rfl ?_
          refine r_getR 3 d_Van_slow_32 fk_Van_32 rfl rfl rfl (by decide) ?_
          refine r_iload_n 1 d_Van_slow_35 rfl rfl ?_
          refine r_iload_n 2 d_Van_slow_36 rfl rfl ?_
          refine r_cVI 4 d_Van_slow_37 lk_Van_78 vc_Town_hasStreet (ct_hasStreet (by omega) (by omega) (by omega) (by omega) (by rw [htk]; omega)) rfl rfl rfl rfl ⟨Nat.le_of_ble_eq_true rfl, Nat.le_of_ble_eq_true rfl⟩ ⟨Nat.zero_le _, Nat.zero_le _⟩ (Nat.le_of_ble_eq_true rfl) (fun r37 s37 q37 => ?_)
          obtain ⟨q37, hs37⟩ := q37
          have hs37 := hs37.symm
          subst hs37
          rw [htk] at q37
          have e49 : r37 = 0 ∧ tk g.D a b 0 = 0 ∨ r37 = 1 ∧ tk g.D a b 0 ≠ 0 := by rw [q37]; split <;> omega
          refine r_if_ne 50 d_Van_slow_40 rfl (by omega) (fun h40 => ?_) (fun h40 => ?_)
          · have hso3 := hso2.resolve_left (fun q => by have := q 0 (by omega) (by omega); omega)
            have hsh := hso3 h (by omega) (by omega)
            have hab : a ≠ b := fun q => by have := hso.2.2 q 0 (by omega) (by omega); omega
            refine r_iload 4 d_Van_slow_50 rfl ?_
            refine r_iconst d_Van_slow_52 ?_
            refine r_icmp_lt 63 d_Van_slow_53 rfl (by omega) (by omega) (fun h53 => ?_) (fun h53 => ?_)
            · refine r_aload_n 0 d_Van_slow_63 rfl rfl ?_
              refine r_bipush d_Van_slow_64 (by decide) ?_
              refine r_cVI 7 d_Van_slow_66 lk_Van_74 vc_Van_refuse (ct_refuse (by omega)) rfl rfl rfl rfl ⟨Nat.le_of_ble_eq_true rfl, Nat.le_of_ble_eq_true rfl⟩ ⟨Nat.zero_le _, Nat.zero_le _⟩ (Nat.le_of_ble_eq_true rfl) (fun r66 s66 q66 => ?_)
              have q := q66
              refine q_iret d_Van_slow_69 rfl ?_
              exact fin_no hI (by omega) hk VF.rf q (by unfold sp_slow; (repeat (first | rw [if_pos (by omega)] | rw [if_neg (by omega)])); (try rfl))
            · refine r_iload 4 d_Van_slow_56 rfl ?_
              refine r_bipush d_Van_slow_58 (by decide) ?_
              refine r_icmp_le 70 d_Van_slow_60 rfl (by omega) (by omega) (fun h60 => ?_) (fun h60 => ?_)
              · refine r_aload_n 0 d_Van_slow_70 rfl rfl ?_
                refine r_getR 3 d_Van_slow_71 fk_Van_32 rfl rfl rfl (by decide) ?_
                refine r_iload_n 1 d_Van_slow_74 rfl rfl ?_
                refine r_iload_n 2 d_Van_slow_75 rfl rfl ?_
                refine r_iload_n 3 d_Van_slow_76 rfl rfl ?_
                refine r_cVP 4 d_Van_slow_77 lk_Van_102 vc_Town_minutes (ct_minutes (by omega) (by omega) (by omega) (by omega) (by omega) (by omega)) rfl rfl rfl rfl ⟨Nat.le_of_ble_eq_true rfl, Nat.le_of_ble_eq_true rfl⟩ ⟨Nat.zero_le _, Nat.zero_le _⟩ (Nat.le_of_ble_eq_true rfl) ?_
                rw [hth]
                refine r_istore 5 d_Van_slow_80 (by decide) rfl ?_
                refine r_aload_n 0 d_Van_slow_82 rfl rfl ?_
                refine r_getR 3 d_Van_slow_83 fk_Van_32 rfl rfl rfl (by decide) ?_
                refine r_iload_n 1 d_Van_slow_86 rfl rfl ?_
                refine r_iload_n 2 d_Van_slow_87 rfl rfl ?_
                refine r_iload_n 3 d_Van_slow_88 rfl rfl ?_
                refine r_iload 4 d_Van_slow_89 rfl ?_
                refine r_cVV 4 d_Van_slow_91 lk_Van_106 vc_Town_setHour (ct_setHour k1.2.2.2.2 h1.2.2.2.2.2 hT (by omega) (by omega) (by omega) (by omega) hab (by omega) (by omega) (by omega) (by omega)) rfl rfl rfl rfl ⟨Nat.le_of_ble_eq_true rfl, Nat.le_of_ble_eq_true rfl⟩ ⟨Nat.zero_le _, Nat.zero_le _⟩ (Nat.le_of_ble_eq_true rfl) (fun s91 q91 => ?_)
                obtain ⟨d4, hT1, dF⟩ := q91
                have hC1 : DC s91 (dST g.D a b (fun k => if k = h then m else tk g.D a b k)) g.ns g.nv := h1.st (fun c i z1 z2 => dF c i (by omega) (by omega) (by omega)) d4 (fun k i z => dST_ne z)
                have hS1 : SOK (dST g.D a b (fun k => if k = h then m else tk g.D a b k)) := SOK_dST k1.2.2.2.2 (by omega) (by omega) (by omega) (by omega) hab (Or.inr (fun k z0 z1 => by have := hso3 k z0 z1; show 1 ≤ (if k = h then m else tk g.D a b k) ∧ (if k = h then m else tk g.D a b k) ≤ 99; split <;> omega))
                have hO1 : DOK (dST g.D a b (fun k => if k = h then m else tk g.D a b k)) g.ns g.nv := k1.st hS1 (fun k i z => dST_ne z)
                have hQ1 : PA s91 39 g.P := hQ.same (fun c i c0 c1 => dF c i (by omega) (by omega) (by omega))
                have hK1 : KF σ s91 := fun c i z => dF c i (by omega) (by omega) (by omega)
                refine r_aload_n 0 d_Van_slow_94 rfl rfl ?_
                refine r_getR 2 d_Van_slow_95 fk_Van_25 rfl rfl rfl (by decide) ?_
                refine r_aload_n 0 d_Van_slow_98 rfl rfl ?_
                refine r_getR 39 d_Van_slow_99 fk_Van_46 rfl rfl rfl (by decide) ?_
                refine r_cVI 5 d_Van_slow_102 lk_Van_92 vc_Trip_total (ct_total hC1 hO1 hT1 (by omega) pl39 hQ1 hRV) rfl rfl rfl rfl ⟨Nat.le_of_ble_eq_true rfl, Nat.le_of_ble_eq_true rfl⟩ ⟨Nat.zero_le _, Nat.zero_le _⟩ (Nat.le_of_ble_eq_true rfl) (fun r102 s102 q102 => ?_)
                obtain ⟨e7, hT2, hJ⟩ := q102
                have hin := fun hz => tot_in hO1 hRV (show AF (dST g.D a b (fun k => if k = h then m else tk g.D a b k)) g.nv g.P from hz) g.nv hn.2.2.1 (Int.le_refl _)
                have hrr : -1 ≤ r102 ∧ r102 ≤ 60000 * g.nv := e7.elim (fun q => by have := hin q.1; omega) (fun q => by omega)
                have hC2 := hJ.dc hC1
                have hK2 := hK1.tr hJ.kf
                refine r_iconst d_Van_slow_105 ?_
                refine r_icmp_ne 128 d_Van_slow_106 rfl (by omega) (by omega) (fun h106 => ?_) (fun h106 => ?_)
                · refine r_aload_n 0 d_Van_slow_128 rfl rfl ?_
                  refine r_getR 45 d_Van_slow_129 fk_Van_52 rfl rfl rfl (by decide) ?_
                  refine r_cVV 0 d_Van_slow_132 lk_Van_99 vc_Past_forget ct_forget rfl rfl rfl rfl ⟨Nat.le_of_ble_eq_true rfl, Nat.le_of_ble_eq_true rfl⟩ ⟨Nat.zero_le _, Nat.zero_le _⟩ (Nat.le_of_ble_eq_true rfl) (fun s132 q132 => ?_)
                  subst q132
                  refine r_iload 5 d_Van_slow_135 rfl ?_
                  refine q_iret d_Van_slow_137 rfl ?_
                  have ea : AF (dST g.D a b (fun k => if k = h then m else tk g.D a b k)) g.nv g.P := (e7.resolve_right (fun q => by omega)).1
                  exact fin_eq (fin_data hI (show B + 1 ≤ B + 2 by omega) hk hK2 hC2 hT2 hO1 k2 ea) (by unfold sp_slow; (repeat (first | rw [if_pos (by omega)] | rw [if_neg (by omega)])); (try rfl); unfold renew; rw [ifp_t ea])
                · refine r_aload_n 0 d_Van_slow_109 rfl rfl ?_
                  refine r_getR 3 d_Van_slow_110 fk_Van_32 rfl rfl rfl (by decide) ?_
                  refine r_iload_n 1 d_Van_slow_113 rfl rfl ?_
                  refine r_iload_n 2 d_Van_slow_114 rfl rfl ?_
                  refine r_iload_n 3 d_Van_slow_115 rfl rfl ?_
                  refine r_iload 5 d_Van_slow_116 rfl ?_
                  refine r_cVV 4 d_Van_slow_118 lk_Van_106 vc_Town_setHour (ct_setHour hS1 hC2.2.2.2.2.2 hT2 (by omega) (by omega) (by omega) (by omega) hab (by omega) (by omega) (by omega) (by omega)) rfl rfl rfl rfl ⟨Nat.le_of_ble_eq_true rfl, Nat.le_of_ble_eq_true rfl⟩ ⟨Nat.zero_le _, Nat.zero_le _⟩ (Nat.le_of_ble_eq_true rfl) (fun s118 q118 => ?_)
                  obtain ⟨c4, cT, cF⟩ := q118
                  have eb := dST_back (f := fun k => if k = h then m else tk g.D a b k) (g := fun k => if k = h then tk g.D a b h else tk (dST g.D a b (fun k => if k = h then m else tk g.D a b k)) a b k) k1.2.2.2.2 (show 0 ≤ a by omega) (show a < 8 by omega) (show 0 ≤ b by omega) (show b < 8 by omega) (fun k z0 z1 => by
                    show (if k = h then tk g.D a b h else tk (dST g.D a b (fun k => if k = h then m else tk g.D a b k)) a b k) = tk g.D a b k
                    by_cases z : k = h
                    · rw [if_pos z, z]
                    · rw [if_neg z, tk_dST (by omega) (by omega) (by omega) (by omega) (by omega) (by omega) (by omega) (by omega) z0 z1, if_pos (Or.inl ⟨rfl, rfl⟩), if_neg z])
                  rw [eb] at c4 cT
                  have hC3 : DC s118 g.D g.ns g.nv := hC2.st (fun c i z1 z2 => cF c i (by omega) (by omega) (by omega)) c4 (fun k i z => (dST_ne z).symm)
                  have hI3 := hI.back (hK2.tr (fun c i z => cF c i (by omega) (by omega) (by omega))) hC3 cT
                  refine r_aload_n 0 d_Van_slow_121 rfl rfl ?_
                  refine r_bipush d_Van_slow_122 (by decide) ?_
                  refine r_cVI 7 d_Van_slow_124 lk_Van_74 vc_Van_refuse (ct_refuse (by omega)) rfl rfl rfl rfl ⟨Nat.le_of_ble_eq_true rfl, Nat.le_of_ble_eq_true rfl⟩ ⟨Nat.zero_le _, Nat.zero_le _⟩ (Nat.le_of_ble_eq_true rfl) (fun r124 s124 q124 => ?_)
                  have q := q124
                  refine q_iret d_Van_slow_127 rfl ?_
                  have ea : ¬ AF (dST g.D a b (fun k => if k = h then m else tk g.D a b k)) g.nv g.P := e7.elim (fun q => by have := hin q.1; omega) (fun q => q.1)
                  exact fin_no hI3 (by omega) hk (hK2.vf.tr (fun c i z => cF c i (by omega) (by omega) (by omega))) q (by unfold sp_slow; (repeat (first | rw [if_pos (by omega)] | rw [if_neg (by omega)])); (try rfl); unfold renew; rw [ifp_f ea])
              · refine r_aload_n 0 d_Van_slow_63 rfl rfl ?_
                refine r_bipush d_Van_slow_64 (by decide) ?_
                refine r_cVI 7 d_Van_slow_66 lk_Van_74 vc_Van_refuse (ct_refuse (by omega)) rfl rfl rfl rfl ⟨Nat.le_of_ble_eq_true rfl, Nat.le_of_ble_eq_true rfl⟩ ⟨Nat.zero_le _, Nat.zero_le _⟩ (Nat.le_of_ble_eq_true rfl) (fun r66 s66 q66 => ?_)
                have q := q66
                refine q_iret d_Van_slow_69 rfl ?_
                exact fin_no hI (by omega) hk VF.rf q (by unfold sp_slow; (repeat (first | rw [if_pos (by omega)] | rw [if_neg (by omega)])); (try rfl))
          · refine r_aload_n 0 d_Van_slow_43 rfl rfl ?_
            refine r_bipush d_Van_slow_44 (by decide) ?_
            refine r_cVI 7 d_Van_slow_46 lk_Van_74 vc_Van_refuse (ct_refuse (by omega)) rfl rfl rfl rfl ⟨Nat.le_of_ble_eq_true rfl, Nat.le_of_ble_eq_true rfl⟩ ⟨Nat.zero_le _, Nat.zero_le _⟩ (Nat.le_of_ble_eq_true rfl) (fun r46 s46 q46 => ?_)
            have q := q46
            refine q_iret d_Van_slow_49 rfl ?_
            exact fin_no hI (by omega) hk VF.rf q (by unfold sp_slow; (repeat (first | rw [if_pos (by omega)] | rw [if_neg (by omega)])); (try rfl))
        · refine r_aload_n 0 d_Van_slow_24 rfl rfl ?_
          refine r_bipush d_Van_slow_25 (by decide) ?_
          refine r_cVI 7 d_Van_slow_27 lk_Van_74 vc_Van_refuse (ct_refuse (by omega)) rfl rfl rfl rfl ⟨Nat.le_of_ble_eq_true rfl, Nat.le_of_ble_eq_true rfl⟩ ⟨Nat.zero_le _, Nat.zero_le _⟩ (Nat.le_of_ble_eq_true rfl) (fun r27 s27 q27 => ?_)
          have q := q27
          refine q_iret d_Van_slow_30 rfl ?_
          exact fin_no hI (by omega) hk VF.rf q (by unfold sp_slow; (repeat (first | rw [if_pos (by omega)] | rw [if_neg (by omega)])); (try rfl))
