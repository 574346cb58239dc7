-- THE REFERENCE: notes (walk written by wip/whole/gen_rn2.py)
theorem mt_notes {σ : sto} {P Q : pln} {U : List pln} (hQ : RA σ Q) (hA : AP σ 186 0 P) (hU : RU σ U) : CV M_Mod_notes 1 [vR 169] σ (fun σ' => RU σ' (ifp (plk Q P) U (psh P U)) ∧ ∀ c i : Int, c ≠ 185 → (c ≠ 169 ∨ i ≠ 20) → σ' c i = σ c i) := by
  obtain ⟨u1, u2, u3⟩ := id hU
  have u0 : 0 ≤ lp U := by unfold lp; omega
  have k62 : ¬ plk Q P → ∀ (σ1 : sto) (u : Int), (u = lp U ∧ lp U < 20 ∨ u = 19 ∧ lp U = 20) → σ1 169 20 = u → (∀ j, 0 ≤ j → j < u → AP σ1 185 (39 * (u - 1 - j)) (gp U j)) → (∀ c i : Int, c ≠ 185 → (c ≠ 169 ∨ i ≠ 20) → σ1 c i = σ c i) → Run M_Mod_notes (rxV 1 (fun σ' => RU σ' (ifp (plk Q P) U (psh P U)) ∧ ∀ c i : Int, c ≠ 185 → (c ≠ 169 ∨ i ≠ 20) → σ' c i = σ c i)) (0, 0) 62 [vR 169, vU] [] (sg σ1) := by
    intro hne σ1 u hu g1 g2 g3
    have LC : ∀ k, 0 ≤ k → k ≤ 39 → ∀ σ2 : sto, (∀ j, 0 ≤ j → j < k → σ2 185 (39 * u + j) = σ 186 j) → (∀ j, j < 39 * u → σ2 185 j = σ1 185 j) → (∀ c i : Int, c ≠ 185 → σ2 c i = σ1 c i) → Run M_Mod_notes (rxV 1 (fun σ' => RU σ' (ifp (plk Q P) U (psh P U)) ∧ ∀ c i : Int, c ≠ 185 → (c ≠ 169 ∨ i ≠ 20) → σ' c i = σ c i)) (0, 0) 64 [vR 169, vI k] [] (sg σ2) := by
      refine up_ind (b := 39) ?_ ?_
      · intro σ2 c1 c2 c3
        have e20 : σ2 169 20 = u := by rw [c3 169 20 (by omega)]; exact g1
        have hlps := lp_psh (P := P) u2
        have hlp2 : lp (psh P U) = u + 1 := by rw [hlps]; split <;> omega
        refine r_iload_n 1 d_Mod_notes_64 rfl rfl ?_
        refine r_bipush d_Mod_notes_65 (by decide) ?_
        refine r_icmp_ge 96 d_Mod_notes_67 rfl (by omega) (by omega) (fun h67 => ?_) (fun h67 => absurd h67 (by omega))
        refine r_aload_n 0 d_Mod_notes_96 rfl rfl ?_
        refine r_dup d_Mod_notes_97 rfl ?_
        refine r_getI 20 d_Mod_notes_98 fk_Mod_137 rfl rfl rfl ?_
        rw [e20]
        refine r_iconst d_Mod_notes_101 ?_
        refine r_iadd d_Mod_notes_102 ?_
        refine r_putI 20 d_Mod_notes_103 fk_Mod_137 rfl rfl rfl (Or.inl rfl) ?_
        refine q_vret d_Mod_notes_106 rfl ?_
        refine ⟨?_, fun c i q1 q2 => by rw [wr_ne (by omega), c3 c i q1]; exact g3 c i q1 q2⟩
        rw [ifp_f hne]
        refine ⟨by rw [wr_eq, hlp2], by omega, fun j j0 j1 => ?_⟩
        rw [hlp2] at j1 ⊢
        by_cases e : j = 0
        · rw [e, gp_psh0]
          intro v v0 v1
          obtain ⟨t1, t2, t3⟩ := hA v v0 v1
          refine ⟨?_, t2, fun i i0 i1 => ?_⟩
          · rw [wr_ne (by omega), show 39 * (u + 1 - 1 - 0) + 36 + v = 39 * u + (36 + v) by omega, c1 _ (by omega) (by omega), show (36 : Int) + v = 0 + 36 + v by omega]; exact t1
          · rw [wr_ne (by omega), show 39 * (u + 1 - 1 - 0) + 12 * v + i = 39 * u + (12 * v + i) by omega, c1 _ (by omega) (by omega), show 12 * v + i = 0 + 12 * v + i by omega]; exact t3 i i0 i1
        · rw [gp_psh (by omega) (by omega) u2, show u + 1 - 1 - j = u - 1 - (j - 1) by omega]
          exact (g2 (j - 1) (by omega) (by omega)).keep (fun k k0 k1 => by rw [wr_ne (by omega)]; exact c2 k (by omega))
      · intro k k0 k1 ih σ2 c1 c2 c3
        have e20 : σ2 169 20 = u := by rw [c3 169 20 (by omega)]; exact g1
        refine r_iload_n 1 d_Mod_notes_64 rfl rfl ?_
        refine r_bipush d_Mod_notes_65 (by decide) ?_
        refine r_icmp_ge 96 d_Mod_notes_67 rfl (by omega) (by omega) (fun h67 => absurd h67 (by omega)) (fun h67 => ?_)
        refine r_aload_n 0 d_Mod_notes_70 rfl rfl ?_
        refine r_getR 185 d_Mod_notes_71 fk_Mod_55 rfl rfl rfl (by decide) ?_
        refine r_bipush d_Mod_notes_74 (by decide) ?_
        refine r_aload_n 0 d_Mod_notes_76 rfl rfl ?_
        refine r_getI 20 d_Mod_notes_77 fk_Mod_137 rfl rfl rfl ?_
        rw [e20]
        refine r_imul d_Mod_notes_80 ?_
        refine r_iload_n 1 d_Mod_notes_81 rfl rfl ?_
        refine r_iadd d_Mod_notes_82 ?_
        refine r_aload_n 0 d_Mod_notes_83 rfl rfl ?_
        refine r_getR 186 d_Mod_notes_84 fk_Mod_58 rfl rfl rfl (by decide) ?_
        refine r_iload_n 1 d_Mod_notes_87 rfl rfl ?_
        refine r_iald 39 d_Mod_notes_88 rfl rfl (by omega) (by omega) ?_
        rw [show σ2 186 k = σ 186 k by rw [c3 186 k (by omega), g3 186 k (by omega) (by omega)]]
        refine r_iast 780 d_Mod_notes_89 rfl rfl (by omega) (by omega) ?_
        refine r_iinc 1 d_Mod_notes_90 rfl (by decide) rfl ?_
        refine r_goto 64 d_Mod_notes_93 rfl ?_
        refine ih _ (fun j j0 j1 => ?_) (fun j j1 => by rw [wr_ne (by omega)]; exact c2 j j1) (fun c i q => by rw [wr_ne (by omega)]; exact c3 c i q)
        by_cases e : j = k
        · rw [e, wr_eq]
        · rw [wr_ne (by omega)]; exact c1 j j0 (by omega)
    refine r_iconst d_Mod_notes_62 ?_
    refine r_istore_n 1 d_Mod_notes_63 rfl (by decide) rfl ?_
    exact LC 0 (by omega) (by omega) σ1 (fun j j0 j1 => by omega) (fun _ _ => rfl) (fun _ _ _ => rfl)
  have LS : ¬ plk Q P → lp U = 20 → ∀ k, 0 ≤ k → k ≤ 741 → ∀ σ1 : sto, (∀ j, 0 ≤ j → σ1 185 j = if j < k then σ 185 (j + 39) else σ 185 j) → (∀ c i : Int, c ≠ 185 → σ1 c i = σ c i) → Run M_Mod_notes (rxV 1 (fun σ' => RU σ' (ifp (plk Q P) U (psh P U)) ∧ ∀ c i : Int, c ≠ 185 → (c ≠ 169 ∨ i ≠ 20) → σ' c i = σ c i)) (0, 0) 24 [vR 169, vI k] [] (sg σ1) := by
    intro hne h20
    refine up_ind (b := 741) ?_ ?_
    · intro σ1 c1 c2
      have e20 : σ1 169 20 = 20 := by rw [c2 169 20 (by omega), u1, h20]
      refine r_iload_n 1 d_Mod_notes_24 rfl rfl ?_
      refine r_sipush d_Mod_notes_25 (by decide) ?_
      refine r_icmp_ge 52 d_Mod_notes_28 rfl (by omega) (by omega) (fun h28 => ?_) (fun h28 => absurd h28 (by omega))
      refine r_aload_n 0 d_Mod_notes_52 rfl rfl ?_
      refine r_dup d_Mod_notes_53 rfl ?_
      refine r_getI 20 d_Mod_notes_54 fk_Mod_137 rfl rfl rfl ?_
      rw [e20]
      refine r_iconst d_Mod_notes_57 ?_
      refine r_isub d_Mod_notes_58 ?_
      refine r_putI 20 d_Mod_notes_59 fk_Mod_137 rfl rfl rfl (Or.inl rfl) ?_
      refine r_drop 1 (k62 hne _ 19 (Or.inr ⟨rfl, h20⟩) wr_eq (fun j j0 j1 => ?_) (fun c i q1 q2 => by rw [wr_ne (by omega)]; exact c2 c i q1))
      have t := u3 j j0 (by omega)
      rw [h20] at t
      intro v v0 v1
      obtain ⟨t1, t2, t3⟩ := t v v0 v1
      refine ⟨?_, t2, fun i i0 i1 => ?_⟩
      · rw [wr_ne (by omega), c1 _ (by omega), if_pos (by omega), show 39 * (19 - 1 - j) + 36 + v + 39 = 39 * (20 - 1 - j) + 36 + v by omega]; exact t1
      · rw [wr_ne (by omega), c1 _ (by omega), if_pos (by omega), show 39 * (19 - 1 - j) + 12 * v + i + 39 = 39 * (20 - 1 - j) + 12 * v + i by omega]; exact t3 i i0 i1
    · intro k k0 k1 ih σ1 c1 c2
      refine r_iload_n 1 d_Mod_notes_24 rfl rfl ?_
      refine r_sipush d_Mod_notes_25 (by decide) ?_
      refine r_icmp_ge 52 d_Mod_notes_28 rfl (by omega) (by omega) (fun h28 => absurd h28 (by omega)) (fun h28 => ?_)
      refine r_aload_n 0 d_Mod_notes_31 rfl rfl ?_
      refine r_getR 185 d_Mod_notes_32 fk_Mod_55 rfl rfl rfl (by decide) ?_
      refine r_iload_n 1 d_Mod_notes_35 rfl rfl ?_
      refine r_aload_n 0 d_Mod_notes_36 rfl rfl ?_
      refine r_getR 185 d_Mod_notes_37 fk_Mod_55 rfl rfl rfl (by decide) ?_
      refine r_iload_n 1 d_Mod_notes_40 rfl rfl ?_
      refine r_bipush d_Mod_notes_41 (by decide) ?_
      refine r_iadd d_Mod_notes_43 ?_
      refine r_iald 780 d_Mod_notes_44 rfl rfl (by omega) (by omega) ?_
      rw [c1 (k + 39) (by omega), if_neg (by omega)]
      refine r_iast 780 d_Mod_notes_45 rfl rfl (by omega) (by omega) ?_
      refine r_iinc 1 d_Mod_notes_46 rfl (by decide) rfl ?_
      refine r_goto 24 d_Mod_notes_49 rfl ?_
      refine ih _ (fun j j0 => ?_) (fun c i q => by rw [wr_ne (by omega)]; exact c2 c i q)
      by_cases e : j = k
      · rw [e, wr_eq, if_pos (by omega)]
      · rw [wr_ne (by omega), c1 j j0]
        by_cases e2 : j < k
        · rw [if_pos e2, if_pos (by omega)]
        · rw [if_neg e2, if_neg (by omega)]
  refine cv_of [vR 169, vU] fy_Mod_notes.1 rfl (Nat.le_of_ble_eq_true rfl) ?_
  refine r_aload_n 0 d_Mod_notes_0 rfl rfl ?_
  refine r_aload_n 0 d_Mod_notes_1 rfl rfl ?_
  refine r_getR 186 d_Mod_notes_2 fk_Mod_58 rfl rfl rfl (by decide) ?_
  refine r_iconst d_Mod_notes_5 ?_
  refine r_cVI 8 d_Mod_notes_6 lk_Mod_213 vc_Mod_isAs (mt_isAs (n := 39) rfl rfl (Int.le_refl _) (by omega) hQ hA) rfl rfl rfl rfl ⟨Nat.le_of_ble_eq_true rfl, Nat.le_of_ble_eq_true rfl⟩ ⟨Nat.zero_le _, Nat.zero_le _⟩ (Nat.le_of_ble_eq_true rfl) (fun r6 s6 q6 => ?_)
  obtain ⟨q6, hs6⟩ := q6
  have hs6 := hs6.symm
  subst hs6
  refine r_if_eq 13 d_Mod_notes_9 rfl (by omega) (fun h9 => ?_) (fun h9 => ?_)
  · have hne := (q6.resolve_left (fun q => by omega)).2
    refine r_aload_n 0 d_Mod_notes_13 rfl rfl ?_
    refine r_getI 20 d_Mod_notes_14 fk_Mod_137 rfl rfl rfl ?_
    refine r_bipush d_Mod_notes_17 (by decide) ?_
    rw [u1]
    refine r_icmp_ne 62 d_Mod_notes_19 rfl (by omega) (by omega) (fun h19 => ?_) (fun h19 => ?_)
    · exact k62 hne σ (lp U) (Or.inl ⟨rfl, by omega⟩) u1 u3 (fun _ _ _ _ => rfl)
    · refine r_iconst d_Mod_notes_22 ?_
      refine r_istore_n 1 d_Mod_notes_23 rfl (by decide) rfl ?_
      exact LS hne h19 0 (by omega) (by omega) σ (fun j j0 => by rw [if_neg (by omega)]) (fun _ _ _ => rfl)
  · have hpl := (q6.resolve_right (fun q => by omega)).2
    refine q_vret d_Mod_notes_12 rfl ?_
    exact ⟨by rw [ifp_t hpl]; exact hU, fun _ _ _ _ => rfl⟩
