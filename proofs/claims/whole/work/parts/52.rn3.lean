-- THE REFERENCE: settles (walk written by wip/whole/gen_rn3.py)
theorem mt_settles {σ σ0 : sto} {g : G} {Q : pln} (hk : g.ok) (hE : RE σ g) (hA : AP σ 186 0 g.P) (hQ : RA σ Q) (hP : PO g.ns g.nv Q) (hF : MF σ0 σ) : CI M_Mod_settles 7 [vR 169] σ (QM (settle g Q) σ0) := by
  obtain ⟨k1, k2, k3, k4, k5, k6⟩ := id hk
  have hn := k1.1
  have hRV := hP.rv hn.1 hn.2.1
  refine ci_of [vR 169] fy_Mod_settles.1 rfl (Nat.le_of_ble_eq_true rfl) ?_
  refine r_aload_n 0 d_Mod_settles_0 rfl rfl ?_
  refine r_cVI 8 d_Mod_settles_1 lk_Mod_133 vc_Mod_allFit (mt_allFit hE.1 k1 hQ hRV) rfl rfl rfl rfl ⟨Nat.le_of_ble_eq_true rfl, Nat.le_of_ble_eq_true rfl⟩ ⟨Nat.zero_le _, Nat.zero_le _⟩ (Nat.le_of_ble_eq_true rfl) (fun r1 s1 q1 => ?_)
  obtain ⟨qa, hR⟩ := q1
  have hE1 := hR.re hE
  have hQ1 := hR.ra hQ
  have hA1 := hR.ap (by omega) hA
  refine r_if_ne 23 d_Mod_settles_4 rfl (by omega) (fun h4 => ?_) (fun h4 => ?_)
  · refine r_aload_n 0 d_Mod_settles_23 rfl rfl ?_
    refine r_cVV 8 d_Mod_settles_24 lk_Mod_221 vc_Mod_notes (mt_notes hQ1 hA1 hE1.2.1) rfl rfl rfl rfl ⟨Nat.le_of_ble_eq_true rfl, Nat.le_of_ble_eq_true rfl⟩ ⟨Nat.zero_le _, Nat.zero_le _⟩ (Nat.le_of_ble_eq_true rfl) (fun s24 q24 => ?_)
    obtain ⟨n1, n2⟩ := q24
    have hav := (qa.resolve_right (fun q => h4 q.1)).2
    have hQ2 := hQ1.keep (σ' := s24) (fun c i q => n2 c i (by omega) (by omega))
    have hD2 := hE1.1.keep (σ' := s24) (fun c i q => n2 c i (by omega) (by omega))
    have hE2 : RE s24 (g.plan Q (ifp (plk Q g.P) g.U (psh g.P g.U))) := ⟨hD2, n1, by rw [n2 169 45 (by omega) (by omega)]; exact hE1.2.2.1, fun i i0 i1 => by rw [n2 196 i (by omega) (by omega)]; exact hE1.2.2.2.1 i i0 i1, by rw [n2 169 33 (by omega) (by omega)]; exact hE1.2.2.2.2.1, fun k k0 k1 => by rw [n2 188 k (by omega) (by omega)]; exact hE1.2.2.2.2.2 k k0 k1⟩
    refine r_aload_n 0 d_Mod_settles_27 rfl rfl ?_
    refine r_cVI 8 d_Mod_settles_28 lk_Mod_209 vc_Mod_costAll (mt_costAll hD2 k1 hQ2 hRV hav) rfl rfl rfl rfl ⟨Nat.le_of_ble_eq_true rfl, Nat.le_of_ble_eq_true rfl⟩ ⟨Nat.zero_le _, Nat.zero_le _⟩ (Nat.le_of_ble_eq_true rfl) (fun r28 s28 q28 => ?_)
    obtain ⟨e, hR3⟩ := q28
    have hE3 := hR3.re hE2
    have hQ3 := hR3.ra hQ2
    refine q_iret d_Mod_settles_31 rfl ?_
    unfold settle
    rw [ifp_t hav]
    refine ⟨e, ?_, ((hF.tr hR.mf).tr (fun c i q => n2 c i (by omega) (by omega))).tr hR3.mf⟩
    show RI _ (adopt g Q)
    unfold adopt
    by_cases hpl : plk Q g.P
    · rw [ifp_t hpl] at hE3 ⊢
      exact ⟨hQ3.plk hpl, hE3⟩
    · rw [ifp_f hpl] at hE3 ⊢
      exact ⟨hQ3, hE3⟩
  · refine r_aload_n 0 d_Mod_settles_7 rfl rfl ?_
    refine r_aload_n 0 d_Mod_settles_8 rfl rfl ?_
    refine r_getR 186 d_Mod_settles_9 fk_Mod_58 rfl rfl rfl (by decide) ?_
    refine r_iconst d_Mod_settles_12 ?_
    refine r_cVV 8 d_Mod_settles_13 lk_Mod_217 vc_Mod_takes (mt_takes (n := 39) rfl rfl (Int.le_refl _) (by omega) (by omega) (by omega)) rfl rfl rfl rfl ⟨Nat.le_of_ble_eq_true rfl, Nat.le_of_ble_eq_true rfl⟩ ⟨Nat.zero_le _, Nat.zero_le _⟩ (Nat.le_of_ble_eq_true rfl) (fun s13 q13 => ?_)
    obtain ⟨t1, t2, t3⟩ := q13
    have hPR : PRF s1 s13 := t3
    have hI2 : RI s13 g := ⟨hA1.to t1 t2, hPR.re hE1⟩
    refine r_aload_n 0 d_Mod_settles_16 rfl rfl ?_
    refine r_bipush d_Mod_settles_17 (by decide) ?_
    refine r_cVI 8 d_Mod_settles_19 lk_Mod_126 vc_Mod_no (mt_no (by omega)) rfl rfl rfl rfl ⟨Nat.le_of_ble_eq_true rfl, Nat.le_of_ble_eq_true rfl⟩ ⟨Nat.zero_le _, Nat.zero_le _⟩ (Nat.le_of_ble_eq_true rfl) (fun r19 s19 q19 => ?_)
    have q := q19
    refine q_iret d_Mod_settles_22 rfl ?_
    have ea : ¬ AF g.D g.nv Q := (qa.resolve_left (fun q => by omega)).2
    exact qn_no hI2 ((hF.tr hR.mf).tr hPR.mf) q (by unfold settle; rw [ifp_f ea])
